section
/-! each piece of the tables is among them -/
theorem wt_1 : ∀ w ∈ tables_1_1, w ∈ tables_1 := fun w h => List.mem_append_left _ (h)
theorem wt_2 : ∀ w ∈ tables_1_2, w ∈ tables_1 := fun w h => List.mem_append_right _ (List.mem_append_left _ (h))
theorem wt_3 : ∀ w ∈ tables_1_3, w ∈ tables_1 := fun w h => List.mem_append_right _ (List.mem_append_right _ (List.mem_append_left _ (h)))
theorem wt_4 : ∀ w ∈ tables_1_4, w ∈ tables_1 := fun w h => List.mem_append_right _ (List.mem_append_right _ (List.mem_append_right _ (List.mem_append_left _ (h))))
theorem wt_5 : ∀ w ∈ tables_1_5, w ∈ tables_1 := fun w h => List.mem_append_right _ (List.mem_append_right _ (List.mem_append_right _ (List.mem_append_right _ (List.mem_append_left _ (h)))))
theorem wt_6 : ∀ w ∈ tables_1_6, w ∈ tables_1 := fun w h => List.mem_append_right _ (List.mem_append_right _ (List.mem_append_right _ (List.mem_append_right _ (List.mem_append_right _ (List.mem_append_left _ (h))))))
theorem wt_7 : ∀ w ∈ tables_1_7, w ∈ tables_1 := fun w h => List.mem_append_right _ (List.mem_append_right _ (List.mem_append_right _ (List.mem_append_right _ (List.mem_append_right _ (List.mem_append_right _ (List.mem_append_left _ (h)))))))
theorem wt_8 : ∀ w ∈ tables_1_8, w ∈ tables_1 := fun w h => List.mem_append_right _ (List.mem_append_right _ (List.mem_append_right _ (List.mem_append_right _ (List.mem_append_right _ (List.mem_append_right _ (List.mem_append_right _ (List.mem_append_left _ (h))))))))
theorem wt_9 : ∀ w ∈ tables_1_9, w ∈ tables_1 := fun w h => List.mem_append_right _ (List.mem_append_right _ (List.mem_append_right _ (List.mem_append_right _ (List.mem_append_right _ (List.mem_append_right _ (List.mem_append_right _ (List.mem_append_right _ (h))))))))
-- ===== PART A: goes FIRST, ahead of the names: the tables' words, and 'selects' of the private methods out of them =====
/-- a private method of a class that the tables say can be made, by its rows of tables_1 -/
def lw_okq (q : MethodName × Nat) : Prop := (q.1.cls ≠ "java/lang/invoke/MethodHandle" ∧ q.1.cls ≠ "java/lang/invoke/VarHandle") ∧ Cond.instantiable q.1.cls q.2 ∈ tables_1 ∧ Cond.privateMethod q.1 ∈ tables_1 ∧ Cond.instanceMethod q.1 ∈ tables_1
set_option maxRecDepth 20000 in
theorem lw_p0 : lw_okq (⟨"RansomHymn$Tokens", "packWords", "(Ljava/lang/String;I)V"⟩, 9) := ⟨⟨by decide +kernel, by decide +kernel⟩, wt_1 _ (List.mem_of_getElem? (i := 218) rfl), wt_1 _ (List.mem_of_getElem? (i := 225) rfl), wt_1 _ (List.mem_of_getElem? (i := 226) rfl)⟩
set_option maxRecDepth 20000 in
theorem lw_p1 : lw_okq (⟨"RansomHymn", "tapeNumber", "(I)V"⟩, 15) := ⟨⟨by decide +kernel, by decide +kernel⟩, wt_1 _ (List.mem_of_getElem? (i := 29) rfl), wt_3 _ (List.mem_of_getElem? (i := 127) rfl), wt_3 _ (List.mem_of_getElem? (i := 128) rfl)⟩
set_option maxRecDepth 20000 in
theorem lw_p2 : lw_okq (⟨"RansomHymn$Tokens", "readWord", "()V"⟩, 9) := ⟨⟨by decide +kernel, by decide +kernel⟩, wt_1 _ (List.mem_of_getElem? (i := 218) rfl), wt_3 _ (List.mem_of_getElem? (i := 162) rfl), wt_3 _ (List.mem_of_getElem? (i := 163) rfl)⟩
set_option maxRecDepth 20000 in
theorem lw_p3 : lw_okq (⟨"RansomHymn$Tokens", "readNumber", "()V"⟩, 9) := ⟨⟨by decide +kernel, by decide +kernel⟩, wt_1 _ (List.mem_of_getElem? (i := 218) rfl), wt_3 _ (List.mem_of_getElem? (i := 169) rfl), wt_3 _ (List.mem_of_getElem? (i := 170) rfl)⟩
set_option maxRecDepth 20000 in
theorem lw_p4 : lw_okq (⟨"RansomHymn$Tokens", "readSign", "()V"⟩, 9) := ⟨⟨by decide +kernel, by decide +kernel⟩, wt_1 _ (List.mem_of_getElem? (i := 218) rfl), wt_3 _ (List.mem_of_getElem? (i := 174) rfl), wt_3 _ (List.mem_of_getElem? (i := 175) rfl)⟩
set_option maxRecDepth 20000 in
theorem lw_p5 : lw_okq (⟨"RansomHymn$Teller", "readTavern", "()V"⟩, 4) := ⟨⟨by decide +kernel, by decide +kernel⟩, wt_1 _ (List.mem_of_getElem? (i := 216) rfl), wt_3 _ (List.mem_of_getElem? (i := 181) rfl), wt_3 _ (List.mem_of_getElem? (i := 182) rfl)⟩
set_option maxRecDepth 20000 in
theorem lw_p6 : lw_okq (⟨"RansomHymn$Teller", "begin", "(LRansomHymn$Roll;)I"⟩, 4) := ⟨⟨by decide +kernel, by decide +kernel⟩, wt_1 _ (List.mem_of_getElem? (i := 216) rfl), wt_3 _ (List.mem_of_getElem? (i := 185) rfl), wt_3 _ (List.mem_of_getElem? (i := 186) rfl)⟩
set_option maxRecDepth 20000 in
theorem lw_p7 : lw_okq (⟨"RansomHymn$Teller", "number", "(II)I"⟩, 4) := ⟨⟨by decide +kernel, by decide +kernel⟩, wt_1 _ (List.mem_of_getElem? (i := 216) rfl), wt_3 _ (List.mem_of_getElem? (i := 207) rfl), wt_3 _ (List.mem_of_getElem? (i := 208) rfl)⟩
set_option maxRecDepth 20000 in
theorem lw_p8 : lw_okq (⟨"RansomHymn$Teller", "readVoice", "()V"⟩, 4) := ⟨⟨by decide +kernel, by decide +kernel⟩, wt_1 _ (List.mem_of_getElem? (i := 216) rfl), wt_3 _ (List.mem_of_getElem? (i := 211) rfl), wt_3 _ (List.mem_of_getElem? (i := 212) rfl)⟩
set_option maxRecDepth 20000 in
theorem lw_p9 : lw_okq (⟨"RansomHymn$Teller", "skips", "(I)Z"⟩, 4) := ⟨⟨by decide +kernel, by decide +kernel⟩, wt_1 _ (List.mem_of_getElem? (i := 216) rfl), wt_3 _ (List.mem_of_getElem? (i := 215) rfl), wt_3 _ (List.mem_of_getElem? (i := 216) rfl)⟩
set_option maxRecDepth 20000 in
theorem lw_p10 : lw_okq (⟨"RansomHymn$Teller", "toldTavern", "()I"⟩, 4) := ⟨⟨by decide +kernel, by decide +kernel⟩, wt_1 _ (List.mem_of_getElem? (i := 216) rfl), wt_3 _ (List.mem_of_getElem? (i := 219) rfl), wt_3 _ (List.mem_of_getElem? (i := 220) rfl)⟩
set_option maxRecDepth 20000 in
theorem lw_p11 : lw_okq (⟨"RansomHymn$Teller", "readVerse", "()V"⟩, 4) := ⟨⟨by decide +kernel, by decide +kernel⟩, wt_1 _ (List.mem_of_getElem? (i := 216) rfl), wt_3 _ (List.mem_of_getElem? (i := 223) rfl), wt_3 _ (List.mem_of_getElem? (i := 224) rfl)⟩
set_option maxRecDepth 20000 in
theorem lw_p12 : lw_okq (⟨"RansomHymn$Teller", "readPart", "(I)V"⟩, 4) := ⟨⟨by decide +kernel, by decide +kernel⟩, wt_1 _ (List.mem_of_getElem? (i := 216) rfl), wt_3 _ (List.mem_of_getElem? (i := 230) rfl), wt_3 _ (List.mem_of_getElem? (i := 231) rfl)⟩
set_option maxRecDepth 20000 in
theorem lw_p13 : lw_okq (⟨"RansomHymn$Teller", "readBaker", "()V"⟩, 4) := ⟨⟨by decide +kernel, by decide +kernel⟩, wt_1 _ (List.mem_of_getElem? (i := 216) rfl), wt_3 _ (List.mem_of_getElem? (i := 234) rfl), wt_3 _ (List.mem_of_getElem? (i := 235) rfl)⟩
set_option maxRecDepth 20000 in
theorem lw_p14 : lw_okq (⟨"RansomHymn$Formulas", "readValue", "(LRansomHymn$Tokens;)Z"⟩, 10) := ⟨⟨by decide +kernel, by decide +kernel⟩, wt_1 _ (List.mem_of_getElem? (i := 64) rfl), wt_4 _ (List.mem_of_getElem? (i := 2) rfl), wt_4 _ (List.mem_of_getElem? (i := 3) rfl)⟩
set_option maxRecDepth 20000 in
theorem lw_p15 : lw_okq (⟨"RansomHymn$Formulas", "hold", "(I)Z"⟩, 10) := ⟨⟨by decide +kernel, by decide +kernel⟩, wt_1 _ (List.mem_of_getElem? (i := 64) rfl), wt_4 _ (List.mem_of_getElem? (i := 6) rfl), wt_4 _ (List.mem_of_getElem? (i := 7) rfl)⟩
def lw_privs_1 : List (MethodName × Nat) := [(⟨"RansomHymn$Tokens", "packWords", "(Ljava/lang/String;I)V"⟩, 9), (⟨"RansomHymn", "tapeNumber", "(I)V"⟩, 15), (⟨"RansomHymn$Tokens", "readWord", "()V"⟩, 9), (⟨"RansomHymn$Tokens", "readNumber", "()V"⟩, 9), (⟨"RansomHymn$Tokens", "readSign", "()V"⟩, 9), (⟨"RansomHymn$Teller", "readTavern", "()V"⟩, 4), (⟨"RansomHymn$Teller", "begin", "(LRansomHymn$Roll;)I"⟩, 4), (⟨"RansomHymn$Teller", "number", "(II)I"⟩, 4), (⟨"RansomHymn$Teller", "readVoice", "()V"⟩, 4), (⟨"RansomHymn$Teller", "skips", "(I)Z"⟩, 4), (⟨"RansomHymn$Teller", "toldTavern", "()I"⟩, 4), (⟨"RansomHymn$Teller", "readVerse", "()V"⟩, 4), (⟨"RansomHymn$Teller", "readPart", "(I)V"⟩, 4), (⟨"RansomHymn$Teller", "readBaker", "()V"⟩, 4), (⟨"RansomHymn$Formulas", "readValue", "(LRansomHymn$Tokens;)Z"⟩, 10), (⟨"RansomHymn$Formulas", "hold", "(I)Z"⟩, 10)]
theorem lw_r1 : ∀ q ∈ lw_privs_1, lw_okq q := List.forall_mem_cons.mpr ⟨lw_p0, List.forall_mem_cons.mpr ⟨lw_p1, List.forall_mem_cons.mpr ⟨lw_p2, List.forall_mem_cons.mpr ⟨lw_p3, List.forall_mem_cons.mpr ⟨lw_p4, List.forall_mem_cons.mpr ⟨lw_p5, List.forall_mem_cons.mpr ⟨lw_p6, List.forall_mem_cons.mpr ⟨lw_p7, List.forall_mem_cons.mpr ⟨lw_p8, List.forall_mem_cons.mpr ⟨lw_p9, List.forall_mem_cons.mpr ⟨lw_p10, List.forall_mem_cons.mpr ⟨lw_p11, List.forall_mem_cons.mpr ⟨lw_p12, List.forall_mem_cons.mpr ⟨lw_p13, List.forall_mem_cons.mpr ⟨lw_p14, List.forall_mem_cons.mpr ⟨lw_p15, fun _ h => absurd h List.not_mem_nil⟩⟩⟩⟩⟩⟩⟩⟩⟩⟩⟩⟩⟩⟩⟩⟩
set_option maxRecDepth 20000 in
theorem lw_p16 : lw_okq (⟨"RansomHymn$Formulas", "topLevel", "()I"⟩, 10) := ⟨⟨by decide +kernel, by decide +kernel⟩, wt_1 _ (List.mem_of_getElem? (i := 64) rfl), wt_4 _ (List.mem_of_getElem? (i := 11) rfl), wt_4 _ (List.mem_of_getElem? (i := 12) rfl)⟩
set_option maxRecDepth 20000 in
theorem lw_p17 : lw_okq (⟨"RansomHymn$Formulas", "isRoom", "(LRansomHymn$Tokens;)Z"⟩, 10) := ⟨⟨by decide +kernel, by decide +kernel⟩, wt_1 _ (List.mem_of_getElem? (i := 64) rfl), wt_4 _ (List.mem_of_getElem? (i := 18) rfl), wt_4 _ (List.mem_of_getElem? (i := 19) rfl)⟩
set_option maxRecDepth 20000 in
theorem lw_p18 : lw_okq (⟨"RansomHymn$Formulas", "put", "(II)Z"⟩, 10) := ⟨⟨by decide +kernel, by decide +kernel⟩, wt_1 _ (List.mem_of_getElem? (i := 64) rfl), wt_4 _ (List.mem_of_getElem? (i := 22) rfl), wt_4 _ (List.mem_of_getElem? (i := 23) rfl)⟩
set_option maxRecDepth 20000 in
theorem lw_p19 : lw_okq (⟨"RansomHymn$Formulas", "readSign", "(LRansomHymn$Tokens;)Z"⟩, 10) := ⟨⟨by decide +kernel, by decide +kernel⟩, wt_1 _ (List.mem_of_getElem? (i := 64) rfl), wt_4 _ (List.mem_of_getElem? (i := 26) rfl), wt_4 _ (List.mem_of_getElem? (i := 27) rfl)⟩
set_option maxRecDepth 20000 in
theorem lw_p20 : lw_okq (⟨"RansomHymn$Formulas", "settle", "(I)V"⟩, 10) := ⟨⟨by decide +kernel, by decide +kernel⟩, wt_1 _ (List.mem_of_getElem? (i := 64) rfl), wt_4 _ (List.mem_of_getElem? (i := 30) rfl), wt_4 _ (List.mem_of_getElem? (i := 31) rfl)⟩
set_option maxRecDepth 20000 in
theorem lw_p21 : lw_okq (⟨"RansomHymn$Teller", "loneNumber", "(ZI)I"⟩, 4) := ⟨⟨by decide +kernel, by decide +kernel⟩, wt_1 _ (List.mem_of_getElem? (i := 216) rfl), wt_4 _ (List.mem_of_getElem? (i := 35) rfl), wt_4 _ (List.mem_of_getElem? (i := 36) rfl)⟩
set_option maxRecDepth 20000 in
theorem lw_p22 : lw_okq (⟨"RansomHymn$Teller", "readLaw", "()V"⟩, 4) := ⟨⟨by decide +kernel, by decide +kernel⟩, wt_1 _ (List.mem_of_getElem? (i := 216) rfl), wt_4 _ (List.mem_of_getElem? (i := 40) rfl), wt_4 _ (List.mem_of_getElem? (i := 41) rfl)⟩
set_option maxRecDepth 20000 in
theorem lw_p23 : lw_okq (⟨"RansomHymn", "claimsOn", "(I)I"⟩, 15) := ⟨⟨by decide +kernel, by decide +kernel⟩, wt_1 _ (List.mem_of_getElem? (i := 29) rfl), wt_4 _ (List.mem_of_getElem? (i := 80) rfl), wt_4 _ (List.mem_of_getElem? (i := 81) rfl)⟩
set_option maxRecDepth 20000 in
theorem lw_p24 : lw_okq (⟨"RansomHymn$Laws", "setOwner", "(III)V"⟩, 6) := ⟨⟨by decide +kernel, by decide +kernel⟩, wt_2 _ (List.mem_of_getElem? (i := 166) rfl), wt_4 _ (List.mem_of_getElem? (i := 130) rfl), wt_4 _ (List.mem_of_getElem? (i := 131) rfl)⟩
set_option maxRecDepth 20000 in
theorem lw_p25 : lw_okq (⟨"RansomHymn$Laws", "setMusic", "(IIII)V"⟩, 6) := ⟨⟨by decide +kernel, by decide +kernel⟩, wt_2 _ (List.mem_of_getElem? (i := 166) rfl), wt_4 _ (List.mem_of_getElem? (i := 145) rfl), wt_4 _ (List.mem_of_getElem? (i := 146) rfl)⟩
set_option maxRecDepth 20000 in
theorem lw_p26 : lw_okq (⟨"RansomHymn$Laws", "reckon", "(III)I"⟩, 6) := ⟨⟨by decide +kernel, by decide +kernel⟩, wt_2 _ (List.mem_of_getElem? (i := 166) rfl), wt_4 _ (List.mem_of_getElem? (i := 149) rfl), wt_4 _ (List.mem_of_getElem? (i := 150) rfl)⟩
set_option maxRecDepth 20000 in
theorem lw_p27 : lw_okq (⟨"RansomHymn$Laws", "apply", "(II)V"⟩, 6) := ⟨⟨by decide +kernel, by decide +kernel⟩, wt_2 _ (List.mem_of_getElem? (i := 166) rfl), wt_4 _ (List.mem_of_getElem? (i := 154) rfl), wt_4 _ (List.mem_of_getElem? (i := 155) rfl)⟩
set_option maxRecDepth 20000 in
theorem lw_p28 : lw_okq (⟨"RansomHymn$Laws", "push", "(J)V"⟩, 6) := ⟨⟨by decide +kernel, by decide +kernel⟩, wt_2 _ (List.mem_of_getElem? (i := 166) rfl), wt_4 _ (List.mem_of_getElem? (i := 158) rfl), wt_4 _ (List.mem_of_getElem? (i := 159) rfl)⟩
set_option maxRecDepth 20000 in
theorem lw_p29 : lw_okq (⟨"RansomHymn$Laws", "pop", "()J"⟩, 6) := ⟨⟨by decide +kernel, by decide +kernel⟩, wt_2 _ (List.mem_of_getElem? (i := 166) rfl), wt_4 _ (List.mem_of_getElem? (i := 164) rfl), wt_4 _ (List.mem_of_getElem? (i := 165) rfl)⟩
set_option maxRecDepth 20000 in
theorem lw_p30 : lw_okq (⟨"RansomHymn$Laws", "scale", "(IJJ)J"⟩, 6) := ⟨⟨by decide +kernel, by decide +kernel⟩, wt_2 _ (List.mem_of_getElem? (i := 166) rfl), wt_4 _ (List.mem_of_getElem? (i := 168) rfl), wt_4 _ (List.mem_of_getElem? (i := 169) rfl)⟩
set_option maxRecDepth 20000 in
theorem lw_p31 : lw_okq (⟨"RansomHymn", "singsIn", "(II)Z"⟩, 15) := ⟨⟨by decide +kernel, by decide +kernel⟩, wt_1 _ (List.mem_of_getElem? (i := 29) rfl), wt_4 _ (List.mem_of_getElem? (i := 213) rfl), wt_4 _ (List.mem_of_getElem? (i := 214) rfl)⟩
def lw_privs_2 : List (MethodName × Nat) := [(⟨"RansomHymn$Formulas", "topLevel", "()I"⟩, 10), (⟨"RansomHymn$Formulas", "isRoom", "(LRansomHymn$Tokens;)Z"⟩, 10), (⟨"RansomHymn$Formulas", "put", "(II)Z"⟩, 10), (⟨"RansomHymn$Formulas", "readSign", "(LRansomHymn$Tokens;)Z"⟩, 10), (⟨"RansomHymn$Formulas", "settle", "(I)V"⟩, 10), (⟨"RansomHymn$Teller", "loneNumber", "(ZI)I"⟩, 4), (⟨"RansomHymn$Teller", "readLaw", "()V"⟩, 4), (⟨"RansomHymn", "claimsOn", "(I)I"⟩, 15), (⟨"RansomHymn$Laws", "setOwner", "(III)V"⟩, 6), (⟨"RansomHymn$Laws", "setMusic", "(IIII)V"⟩, 6), (⟨"RansomHymn$Laws", "reckon", "(III)I"⟩, 6), (⟨"RansomHymn$Laws", "apply", "(II)V"⟩, 6), (⟨"RansomHymn$Laws", "push", "(J)V"⟩, 6), (⟨"RansomHymn$Laws", "pop", "()J"⟩, 6), (⟨"RansomHymn$Laws", "scale", "(IJJ)J"⟩, 6), (⟨"RansomHymn", "singsIn", "(II)Z"⟩, 15)]
theorem lw_r2 : ∀ q ∈ lw_privs_2, lw_okq q := List.forall_mem_cons.mpr ⟨lw_p16, List.forall_mem_cons.mpr ⟨lw_p17, List.forall_mem_cons.mpr ⟨lw_p18, List.forall_mem_cons.mpr ⟨lw_p19, List.forall_mem_cons.mpr ⟨lw_p20, List.forall_mem_cons.mpr ⟨lw_p21, List.forall_mem_cons.mpr ⟨lw_p22, List.forall_mem_cons.mpr ⟨lw_p23, List.forall_mem_cons.mpr ⟨lw_p24, List.forall_mem_cons.mpr ⟨lw_p25, List.forall_mem_cons.mpr ⟨lw_p26, List.forall_mem_cons.mpr ⟨lw_p27, List.forall_mem_cons.mpr ⟨lw_p28, List.forall_mem_cons.mpr ⟨lw_p29, List.forall_mem_cons.mpr ⟨lw_p30, List.forall_mem_cons.mpr ⟨lw_p31, fun _ h => absurd h List.not_mem_nil⟩⟩⟩⟩⟩⟩⟩⟩⟩⟩⟩⟩⟩⟩⟩⟩
set_option maxRecDepth 20000 in
theorem lw_p32 : lw_okq (⟨"RansomHymn", "singPart", "(I)I"⟩, 15) := ⟨⟨by decide +kernel, by decide +kernel⟩, wt_1 _ (List.mem_of_getElem? (i := 29) rfl), wt_5 _ (List.mem_of_getElem? (i := 1) rfl), wt_5 _ (List.mem_of_getElem? (i := 2) rfl)⟩
set_option maxRecDepth 20000 in
theorem lw_p33 : lw_okq (⟨"RansomHymn", "crackBoys", "()V"⟩, 15) := ⟨⟨by decide +kernel, by decide +kernel⟩, wt_1 _ (List.mem_of_getElem? (i := 29) rfl), wt_5 _ (List.mem_of_getElem? (i := 7) rfl), wt_5 _ (List.mem_of_getElem? (i := 8) rfl)⟩
set_option maxRecDepth 20000 in
theorem lw_p34 : lw_okq (⟨"RansomHymn$Choice", "weighPart", "(II)V"⟩, 11) := ⟨⟨by decide +kernel, by decide +kernel⟩, wt_2 _ (List.mem_of_getElem? (i := 192) rfl), wt_5 _ (List.mem_of_getElem? (i := 33) rfl), wt_5 _ (List.mem_of_getElem? (i := 34) rfl)⟩
set_option maxRecDepth 20000 in
theorem lw_p35 : lw_okq (⟨"RansomHymn$Choice", "weighRows", "(I)V"⟩, 11) := ⟨⟨by decide +kernel, by decide +kernel⟩, wt_2 _ (List.mem_of_getElem? (i := 192) rfl), wt_5 _ (List.mem_of_getElem? (i := 41) rfl), wt_5 _ (List.mem_of_getElem? (i := 42) rfl)⟩
set_option maxRecDepth 20000 in
theorem lw_p36 : lw_okq (⟨"RansomHymn$Choice", "rowsOf", "(I)I"⟩, 11) := ⟨⟨by decide +kernel, by decide +kernel⟩, wt_2 _ (List.mem_of_getElem? (i := 192) rfl), wt_5 _ (List.mem_of_getElem? (i := 45) rfl), wt_5 _ (List.mem_of_getElem? (i := 46) rfl)⟩
set_option maxRecDepth 20000 in
theorem lw_p37 : lw_okq (⟨"RansomHymn$Choice", "fits", "(II)Z"⟩, 11) := ⟨⟨by decide +kernel, by decide +kernel⟩, wt_2 _ (List.mem_of_getElem? (i := 192) rfl), wt_5 _ (List.mem_of_getElem? (i := 49) rfl), wt_5 _ (List.mem_of_getElem? (i := 50) rfl)⟩
set_option maxRecDepth 20000 in
theorem lw_p38 : lw_okq (⟨"RansomHymn$Choice", "joinRest", "(I)V"⟩, 11) := ⟨⟨by decide +kernel, by decide +kernel⟩, wt_2 _ (List.mem_of_getElem? (i := 192) rfl), wt_5 _ (List.mem_of_getElem? (i := 53) rfl), wt_5 _ (List.mem_of_getElem? (i := 54) rfl)⟩
set_option maxRecDepth 20000 in
theorem lw_p39 : lw_okq (⟨"RansomHymn$Choice", "isBest", "(II)Z"⟩, 11) := ⟨⟨by decide +kernel, by decide +kernel⟩, wt_2 _ (List.mem_of_getElem? (i := 192) rfl), wt_5 _ (List.mem_of_getElem? (i := 75) rfl), wt_5 _ (List.mem_of_getElem? (i := 76) rfl)⟩
set_option maxRecDepth 20000 in
theorem lw_p40 : lw_okq (⟨"RansomHymn$Sale", "sellVerse", "(I)V"⟩, 6) := ⟨⟨by decide +kernel, by decide +kernel⟩, wt_2 _ (List.mem_of_getElem? (i := 236) rfl), wt_5 _ (List.mem_of_getElem? (i := 92) rfl), wt_5 _ (List.mem_of_getElem? (i := 93) rfl)⟩
set_option maxRecDepth 20000 in
theorem lw_p41 : lw_okq (⟨"RansomHymn", "knownCount", "()I"⟩, 15) := ⟨⟨by decide +kernel, by decide +kernel⟩, wt_1 _ (List.mem_of_getElem? (i := 29) rfl), wt_5 _ (List.mem_of_getElem? (i := 122) rfl), wt_5 _ (List.mem_of_getElem? (i := 123) rfl)⟩
set_option maxRecDepth 20000 in
theorem lw_p42 : lw_okq (⟨"RansomHymn", "reachOf", "(I)J"⟩, 15) := ⟨⟨by decide +kernel, by decide +kernel⟩, wt_1 _ (List.mem_of_getElem? (i := 29) rfl), wt_5 _ (List.mem_of_getElem? (i := 149) rfl), wt_5 _ (List.mem_of_getElem? (i := 150) rfl)⟩
set_option maxRecDepth 20000 in
theorem lw_p43 : lw_okq (⟨"RansomHymn", "isRound", "(IIII)Z"⟩, 15) := ⟨⟨by decide +kernel, by decide +kernel⟩, wt_1 _ (List.mem_of_getElem? (i := 29) rfl), wt_5 _ (List.mem_of_getElem? (i := 157) rfl), wt_5 _ (List.mem_of_getElem? (i := 158) rfl)⟩
set_option maxRecDepth 20000 in
theorem lw_p44 : lw_okq (⟨"RansomHymn$Canon", "fill", "(IIJ)V"⟩, 10) := ⟨⟨by decide +kernel, by decide +kernel⟩, wt_3 _ (List.mem_of_getElem? (i := 24) rfl), wt_5 _ (List.mem_of_getElem? (i := 167) rfl), wt_5 _ (List.mem_of_getElem? (i := 168) rfl)⟩
set_option maxRecDepth 20000 in
theorem lw_p45 : lw_okq (⟨"RansomHymn", "shareOf", "(II)I"⟩, 15) := ⟨⟨by decide +kernel, by decide +kernel⟩, wt_1 _ (List.mem_of_getElem? (i := 29) rfl), wt_5 _ (List.mem_of_getElem? (i := 186) rfl), wt_5 _ (List.mem_of_getElem? (i := 187) rfl)⟩
set_option maxRecDepth 20000 in
theorem lw_p46 : lw_okq (⟨"java/lang/Throwable", "fillInStackTrace", "(I)Ljava/lang/Throwable;"⟩, 6) := ⟨⟨by decide +kernel, by decide +kernel⟩, wt_6 _ (List.mem_of_getElem? (i := 26) rfl), wt_6 _ (List.mem_of_getElem? (i := 24) rfl), wt_6 _ (List.mem_of_getElem? (i := 25) rfl)⟩
set_option maxRecDepth 20000 in
theorem lw_p47 : lw_okq (⟨"RansomHymnModel", "begins", "()V"⟩, 69) := ⟨⟨by decide +kernel, by decide +kernel⟩, wt_6 _ (List.mem_of_getElem? (i := 71) rfl), wt_6 _ (List.mem_of_getElem? (i := 77) rfl), wt_6 _ (List.mem_of_getElem? (i := 78) rfl)⟩
def lw_privs_3 : List (MethodName × Nat) := [(⟨"RansomHymn", "singPart", "(I)I"⟩, 15), (⟨"RansomHymn", "crackBoys", "()V"⟩, 15), (⟨"RansomHymn$Choice", "weighPart", "(II)V"⟩, 11), (⟨"RansomHymn$Choice", "weighRows", "(I)V"⟩, 11), (⟨"RansomHymn$Choice", "rowsOf", "(I)I"⟩, 11), (⟨"RansomHymn$Choice", "fits", "(II)Z"⟩, 11), (⟨"RansomHymn$Choice", "joinRest", "(I)V"⟩, 11), (⟨"RansomHymn$Choice", "isBest", "(II)Z"⟩, 11), (⟨"RansomHymn$Sale", "sellVerse", "(I)V"⟩, 6), (⟨"RansomHymn", "knownCount", "()I"⟩, 15), (⟨"RansomHymn", "reachOf", "(I)J"⟩, 15), (⟨"RansomHymn", "isRound", "(IIII)Z"⟩, 15), (⟨"RansomHymn$Canon", "fill", "(IIJ)V"⟩, 10), (⟨"RansomHymn", "shareOf", "(II)I"⟩, 15), (⟨"java/lang/Throwable", "fillInStackTrace", "(I)Ljava/lang/Throwable;"⟩, 6), (⟨"RansomHymnModel", "begins", "()V"⟩, 69)]
theorem lw_r3 : ∀ q ∈ lw_privs_3, lw_okq q := List.forall_mem_cons.mpr ⟨lw_p32, List.forall_mem_cons.mpr ⟨lw_p33, List.forall_mem_cons.mpr ⟨lw_p34, List.forall_mem_cons.mpr ⟨lw_p35, List.forall_mem_cons.mpr ⟨lw_p36, List.forall_mem_cons.mpr ⟨lw_p37, List.forall_mem_cons.mpr ⟨lw_p38, List.forall_mem_cons.mpr ⟨lw_p39, List.forall_mem_cons.mpr ⟨lw_p40, List.forall_mem_cons.mpr ⟨lw_p41, List.forall_mem_cons.mpr ⟨lw_p42, List.forall_mem_cons.mpr ⟨lw_p43, List.forall_mem_cons.mpr ⟨lw_p44, List.forall_mem_cons.mpr ⟨lw_p45, List.forall_mem_cons.mpr ⟨lw_p46, List.forall_mem_cons.mpr ⟨lw_p47, fun _ h => absurd h List.not_mem_nil⟩⟩⟩⟩⟩⟩⟩⟩⟩⟩⟩⟩⟩⟩⟩⟩
set_option maxRecDepth 20000 in
theorem lw_p48 : lw_okq (⟨"RansomHymnModel", "reads", "(II)V"⟩, 69) := ⟨⟨by decide +kernel, by decide +kernel⟩, wt_6 _ (List.mem_of_getElem? (i := 71) rfl), wt_7 _ (List.mem_of_getElem? (i := 58) rfl), wt_7 _ (List.mem_of_getElem? (i := 59) rfl)⟩
set_option maxRecDepth 20000 in
theorem lw_p49 : lw_okq (⟨"RansomHymnModel", "token", "()V"⟩, 69) := ⟨⟨by decide +kernel, by decide +kernel⟩, wt_6 _ (List.mem_of_getElem? (i := 71) rfl), wt_7 _ (List.mem_of_getElem? (i := 62) rfl), wt_7 _ (List.mem_of_getElem? (i := 63) rfl)⟩
set_option maxRecDepth 20000 in
theorem lw_p50 : lw_okq (⟨"RansomHymnModel", "here", "()I"⟩, 69) := ⟨⟨by decide +kernel, by decide +kernel⟩, wt_6 _ (List.mem_of_getElem? (i := 71) rfl), wt_7 _ (List.mem_of_getElem? (i := 66) rfl), wt_7 _ (List.mem_of_getElem? (i := 67) rfl)⟩
set_option maxRecDepth 20000 in
theorem lw_p51 : lw_okq (⟨"RansomHymnModel", "word", "()I"⟩, 69) := ⟨⟨by decide +kernel, by decide +kernel⟩, wt_6 _ (List.mem_of_getElem? (i := 71) rfl), wt_7 _ (List.mem_of_getElem? (i := 73) rfl), wt_7 _ (List.mem_of_getElem? (i := 74) rfl)⟩
set_option maxRecDepth 20000 in
theorem lw_p52 : lw_okq (⟨"RansomHymnModel", "name", "()V"⟩, 69) := ⟨⟨by decide +kernel, by decide +kernel⟩, wt_6 _ (List.mem_of_getElem? (i := 71) rfl), wt_7 _ (List.mem_of_getElem? (i := 80) rfl), wt_7 _ (List.mem_of_getElem? (i := 81) rfl)⟩
set_option maxRecDepth 20000 in
theorem lw_p53 : lw_okq (⟨"RansomHymnModel", "sign", "(I)V"⟩, 69) := ⟨⟨by decide +kernel, by decide +kernel⟩, wt_6 _ (List.mem_of_getElem? (i := 71) rfl), wt_7 _ (List.mem_of_getElem? (i := 88) rfl), wt_7 _ (List.mem_of_getElem? (i := 89) rfl)⟩
set_option maxRecDepth 20000 in
theorem lw_p54 : lw_okq (⟨"RansomHymnModel", "line", "()V"⟩, 69) := ⟨⟨by decide +kernel, by decide +kernel⟩, wt_6 _ (List.mem_of_getElem? (i := 71) rfl), wt_7 _ (List.mem_of_getElem? (i := 92) rfl), wt_7 _ (List.mem_of_getElem? (i := 93) rfl)⟩
set_option maxRecDepth 20000 in
theorem lw_p55 : lw_okq (⟨"RansomHymnModel", "wrong", "(I)V"⟩, 69) := ⟨⟨by decide +kernel, by decide +kernel⟩, wt_6 _ (List.mem_of_getElem? (i := 71) rfl), wt_7 _ (List.mem_of_getElem? (i := 96) rfl), wt_7 _ (List.mem_of_getElem? (i := 97) rfl)⟩
set_option maxRecDepth 20000 in
theorem lw_p56 : lw_okq (⟨"RansomHymnModel", "isFull", "(I)Z"⟩, 69) := ⟨⟨by decide +kernel, by decide +kernel⟩, wt_6 _ (List.mem_of_getElem? (i := 71) rfl), wt_7 _ (List.mem_of_getElem? (i := 100) rfl), wt_7 _ (List.mem_of_getElem? (i := 101) rfl)⟩
set_option maxRecDepth 20000 in
theorem lw_p57 : lw_okq (⟨"RansomHymnModel", "fresher", "(I)I"⟩, 69) := ⟨⟨by decide +kernel, by decide +kernel⟩, wt_6 _ (List.mem_of_getElem? (i := 71) rfl), wt_7 _ (List.mem_of_getElem? (i := 104) rfl), wt_7 _ (List.mem_of_getElem? (i := 105) rfl)⟩
set_option maxRecDepth 20000 in
theorem lw_p58 : lw_okq (⟨"RansomHymnModel", "fresh", "([III)I"⟩, 69) := ⟨⟨by decide +kernel, by decide +kernel⟩, wt_6 _ (List.mem_of_getElem? (i := 71) rfl), wt_7 _ (List.mem_of_getElem? (i := 108) rfl), wt_7 _ (List.mem_of_getElem? (i := 109) rfl)⟩
set_option maxRecDepth 20000 in
theorem lw_p59 : lw_okq (⟨"RansomHymnModel", "numeral", "(II)I"⟩, 69) := ⟨⟨by decide +kernel, by decide +kernel⟩, wt_6 _ (List.mem_of_getElem? (i := 71) rfl), wt_7 _ (List.mem_of_getElem? (i := 115) rfl), wt_7 _ (List.mem_of_getElem? (i := 116) rfl)⟩
set_option maxRecDepth 20000 in
theorem lw_p60 : lw_okq (⟨"RansomHymnModel", "voiceLine", "(I)V"⟩, 69) := ⟨⟨by decide +kernel, by decide +kernel⟩, wt_6 _ (List.mem_of_getElem? (i := 71) rfl), wt_7 _ (List.mem_of_getElem? (i := 119) rfl), wt_7 _ (List.mem_of_getElem? (i := 120) rfl)⟩
set_option maxRecDepth 20000 in
theorem lw_p61 : lw_okq (⟨"RansomHymnModel", "isWord", "(I)Z"⟩, 69) := ⟨⟨by decide +kernel, by decide +kernel⟩, wt_6 _ (List.mem_of_getElem? (i := 71) rfl), wt_7 _ (List.mem_of_getElem? (i := 123) rfl), wt_7 _ (List.mem_of_getElem? (i := 124) rfl)⟩
set_option maxRecDepth 20000 in
theorem lw_p62 : lw_okq (⟨"RansomHymnModel", "tavernAhead", "()I"⟩, 69) := ⟨⟨by decide +kernel, by decide +kernel⟩, wt_6 _ (List.mem_of_getElem? (i := 71) rfl), wt_7 _ (List.mem_of_getElem? (i := 127) rfl), wt_7 _ (List.mem_of_getElem? (i := 128) rfl)⟩
set_option maxRecDepth 20000 in
theorem lw_p63 : lw_okq (⟨"RansomHymnModel", "goOn", "()V"⟩, 69) := ⟨⟨by decide +kernel, by decide +kernel⟩, wt_6 _ (List.mem_of_getElem? (i := 71) rfl), wt_7 _ (List.mem_of_getElem? (i := 131) rfl), wt_7 _ (List.mem_of_getElem? (i := 132) rfl)⟩
def lw_privs_4 : List (MethodName × Nat) := [(⟨"RansomHymnModel", "reads", "(II)V"⟩, 69), (⟨"RansomHymnModel", "token", "()V"⟩, 69), (⟨"RansomHymnModel", "here", "()I"⟩, 69), (⟨"RansomHymnModel", "word", "()I"⟩, 69), (⟨"RansomHymnModel", "name", "()V"⟩, 69), (⟨"RansomHymnModel", "sign", "(I)V"⟩, 69), (⟨"RansomHymnModel", "line", "()V"⟩, 69), (⟨"RansomHymnModel", "wrong", "(I)V"⟩, 69), (⟨"RansomHymnModel", "isFull", "(I)Z"⟩, 69), (⟨"RansomHymnModel", "fresher", "(I)I"⟩, 69), (⟨"RansomHymnModel", "fresh", "([III)I"⟩, 69), (⟨"RansomHymnModel", "numeral", "(II)I"⟩, 69), (⟨"RansomHymnModel", "voiceLine", "(I)V"⟩, 69), (⟨"RansomHymnModel", "isWord", "(I)Z"⟩, 69), (⟨"RansomHymnModel", "tavernAhead", "()I"⟩, 69), (⟨"RansomHymnModel", "goOn", "()V"⟩, 69)]
theorem lw_r4 : ∀ q ∈ lw_privs_4, lw_okq q := List.forall_mem_cons.mpr ⟨lw_p48, List.forall_mem_cons.mpr ⟨lw_p49, List.forall_mem_cons.mpr ⟨lw_p50, List.forall_mem_cons.mpr ⟨lw_p51, List.forall_mem_cons.mpr ⟨lw_p52, List.forall_mem_cons.mpr ⟨lw_p53, List.forall_mem_cons.mpr ⟨lw_p54, List.forall_mem_cons.mpr ⟨lw_p55, List.forall_mem_cons.mpr ⟨lw_p56, List.forall_mem_cons.mpr ⟨lw_p57, List.forall_mem_cons.mpr ⟨lw_p58, List.forall_mem_cons.mpr ⟨lw_p59, List.forall_mem_cons.mpr ⟨lw_p60, List.forall_mem_cons.mpr ⟨lw_p61, List.forall_mem_cons.mpr ⟨lw_p62, List.forall_mem_cons.mpr ⟨lw_p63, fun _ h => absurd h List.not_mem_nil⟩⟩⟩⟩⟩⟩⟩⟩⟩⟩⟩⟩⟩⟩⟩⟩
set_option maxRecDepth 20000 in
theorem lw_p64 : lw_okq (⟨"RansomHymnModel", "verseLine", "(I)V"⟩, 69) := ⟨⟨by decide +kernel, by decide +kernel⟩, wt_6 _ (List.mem_of_getElem? (i := 71) rfl), wt_7 _ (List.mem_of_getElem? (i := 135) rfl), wt_7 _ (List.mem_of_getElem? (i := 136) rfl)⟩
set_option maxRecDepth 20000 in
theorem lw_p65 : lw_okq (⟨"RansomHymnModel", "partLine", "(I)V"⟩, 69) := ⟨⟨by decide +kernel, by decide +kernel⟩, wt_6 _ (List.mem_of_getElem? (i := 71) rfl), wt_7 _ (List.mem_of_getElem? (i := 139) rfl), wt_7 _ (List.mem_of_getElem? (i := 140) rfl)⟩
set_option maxRecDepth 20000 in
theorem lw_p66 : lw_okq (⟨"RansomHymnModel", "sumOf", "(I)V"⟩, 69) := ⟨⟨by decide +kernel, by decide +kernel⟩, wt_6 _ (List.mem_of_getElem? (i := 71) rfl), wt_7 _ (List.mem_of_getElem? (i := 143) rfl), wt_7 _ (List.mem_of_getElem? (i := 144) rfl)⟩
set_option maxRecDepth 20000 in
theorem lw_p67 : lw_okq (⟨"RansomHymnModel", "expression", "()V"⟩, 69) := ⟨⟨by decide +kernel, by decide +kernel⟩, wt_6 _ (List.mem_of_getElem? (i := 71) rfl), wt_7 _ (List.mem_of_getElem? (i := 147) rfl), wt_7 _ (List.mem_of_getElem? (i := 148) rfl)⟩
set_option maxRecDepth 20000 in
theorem lw_p68 : lw_okq (⟨"RansomHymnModel", "conjunction", "()V"⟩, 69) := ⟨⟨by decide +kernel, by decide +kernel⟩, wt_6 _ (List.mem_of_getElem? (i := 71) rfl), wt_7 _ (List.mem_of_getElem? (i := 151) rfl), wt_7 _ (List.mem_of_getElem? (i := 152) rfl)⟩
set_option maxRecDepth 20000 in
theorem lw_p69 : lw_okq (⟨"RansomHymnModel", "negation", "()V"⟩, 69) := ⟨⟨by decide +kernel, by decide +kernel⟩, wt_6 _ (List.mem_of_getElem? (i := 71) rfl), wt_7 _ (List.mem_of_getElem? (i := 155) rfl), wt_7 _ (List.mem_of_getElem? (i := 156) rfl)⟩
set_option maxRecDepth 20000 in
theorem lw_p70 : lw_okq (⟨"RansomHymnModel", "knot", "()V"⟩, 69) := ⟨⟨by decide +kernel, by decide +kernel⟩, wt_6 _ (List.mem_of_getElem? (i := 71) rfl), wt_7 _ (List.mem_of_getElem? (i := 159) rfl), wt_7 _ (List.mem_of_getElem? (i := 160) rfl)⟩
set_option maxRecDepth 20000 in
theorem lw_p71 : lw_okq (⟨"RansomHymnModel", "puts", "(II)V"⟩, 69) := ⟨⟨by decide +kernel, by decide +kernel⟩, wt_6 _ (List.mem_of_getElem? (i := 71) rfl), wt_7 _ (List.mem_of_getElem? (i := 163) rfl), wt_7 _ (List.mem_of_getElem? (i := 164) rfl)⟩
set_option maxRecDepth 20000 in
theorem lw_p72 : lw_okq (⟨"RansomHymnModel", "sum", "()V"⟩, 69) := ⟨⟨by decide +kernel, by decide +kernel⟩, wt_6 _ (List.mem_of_getElem? (i := 71) rfl), wt_7 _ (List.mem_of_getElem? (i := 167) rfl), wt_7 _ (List.mem_of_getElem? (i := 168) rfl)⟩
set_option maxRecDepth 20000 in
theorem lw_p73 : lw_okq (⟨"RansomHymnModel", "product", "()V"⟩, 69) := ⟨⟨by decide +kernel, by decide +kernel⟩, wt_6 _ (List.mem_of_getElem? (i := 71) rfl), wt_7 _ (List.mem_of_getElem? (i := 171) rfl), wt_7 _ (List.mem_of_getElem? (i := 172) rfl)⟩
set_option maxRecDepth 20000 in
theorem lw_p74 : lw_okq (⟨"RansomHymnModel", "primary", "()V"⟩, 69) := ⟨⟨by decide +kernel, by decide +kernel⟩, wt_6 _ (List.mem_of_getElem? (i := 71) rfl), wt_7 _ (List.mem_of_getElem? (i := 175) rfl), wt_7 _ (List.mem_of_getElem? (i := 176) rfl)⟩
set_option maxRecDepth 20000 in
theorem lw_p75 : lw_okq (⟨"RansomHymnModel", "isSign", "(I)Z"⟩, 69) := ⟨⟨by decide +kernel, by decide +kernel⟩, wt_6 _ (List.mem_of_getElem? (i := 71) rfl), wt_7 _ (List.mem_of_getElem? (i := 179) rfl), wt_7 _ (List.mem_of_getElem? (i := 180) rfl)⟩
set_option maxRecDepth 20000 in
theorem lw_p76 : lw_okq (⟨"RansomHymnModel", "lawLine", "()V"⟩, 69) := ⟨⟨by decide +kernel, by decide +kernel⟩, wt_6 _ (List.mem_of_getElem? (i := 71) rfl), wt_7 _ (List.mem_of_getElem? (i := 183) rfl), wt_7 _ (List.mem_of_getElem? (i := 184) rfl)⟩
set_option maxRecDepth 20000 in
theorem lw_p77 : lw_okq (⟨"RansomHymnModel", "isVoice", "(I)Z"⟩, 69) := ⟨⟨by decide +kernel, by decide +kernel⟩, wt_6 _ (List.mem_of_getElem? (i := 71) rfl), wt_7 _ (List.mem_of_getElem? (i := 202) rfl), wt_7 _ (List.mem_of_getElem? (i := 203) rfl)⟩
set_option maxRecDepth 20000 in
theorem lw_p78 : lw_okq (⟨"RansomHymnModel", "isCracked", "(I)Z"⟩, 69) := ⟨⟨by decide +kernel, by decide +kernel⟩, wt_6 _ (List.mem_of_getElem? (i := 71) rfl), wt_7 _ (List.mem_of_getElem? (i := 206) rfl), wt_7 _ (List.mem_of_getElem? (i := 207) rfl)⟩
set_option maxRecDepth 20000 in
theorem lw_p79 : lw_okq (⟨"RansomHymnModel", "isTavern", "(I)Z"⟩, 69) := ⟨⟨by decide +kernel, by decide +kernel⟩, wt_6 _ (List.mem_of_getElem? (i := 71) rfl), wt_7 _ (List.mem_of_getElem? (i := 214) rfl), wt_7 _ (List.mem_of_getElem? (i := 215) rfl)⟩
def lw_privs_5 : List (MethodName × Nat) := [(⟨"RansomHymnModel", "verseLine", "(I)V"⟩, 69), (⟨"RansomHymnModel", "partLine", "(I)V"⟩, 69), (⟨"RansomHymnModel", "sumOf", "(I)V"⟩, 69), (⟨"RansomHymnModel", "expression", "()V"⟩, 69), (⟨"RansomHymnModel", "conjunction", "()V"⟩, 69), (⟨"RansomHymnModel", "negation", "()V"⟩, 69), (⟨"RansomHymnModel", "knot", "()V"⟩, 69), (⟨"RansomHymnModel", "puts", "(II)V"⟩, 69), (⟨"RansomHymnModel", "sum", "()V"⟩, 69), (⟨"RansomHymnModel", "product", "()V"⟩, 69), (⟨"RansomHymnModel", "primary", "()V"⟩, 69), (⟨"RansomHymnModel", "isSign", "(I)Z"⟩, 69), (⟨"RansomHymnModel", "lawLine", "()V"⟩, 69), (⟨"RansomHymnModel", "isVoice", "(I)Z"⟩, 69), (⟨"RansomHymnModel", "isCracked", "(I)Z"⟩, 69), (⟨"RansomHymnModel", "isTavern", "(I)Z"⟩, 69)]
theorem lw_r5 : ∀ q ∈ lw_privs_5, lw_okq q := List.forall_mem_cons.mpr ⟨lw_p64, List.forall_mem_cons.mpr ⟨lw_p65, List.forall_mem_cons.mpr ⟨lw_p66, List.forall_mem_cons.mpr ⟨lw_p67, List.forall_mem_cons.mpr ⟨lw_p68, List.forall_mem_cons.mpr ⟨lw_p69, List.forall_mem_cons.mpr ⟨lw_p70, List.forall_mem_cons.mpr ⟨lw_p71, List.forall_mem_cons.mpr ⟨lw_p72, List.forall_mem_cons.mpr ⟨lw_p73, List.forall_mem_cons.mpr ⟨lw_p74, List.forall_mem_cons.mpr ⟨lw_p75, List.forall_mem_cons.mpr ⟨lw_p76, List.forall_mem_cons.mpr ⟨lw_p77, List.forall_mem_cons.mpr ⟨lw_p78, List.forall_mem_cons.mpr ⟨lw_p79, fun _ h => absurd h List.not_mem_nil⟩⟩⟩⟩⟩⟩⟩⟩⟩⟩⟩⟩⟩⟩⟩⟩
set_option maxRecDepth 20000 in
theorem lw_p80 : lw_okq (⟨"RansomHymnModel", "isVerse", "(I)Z"⟩, 69) := ⟨⟨by decide +kernel, by decide +kernel⟩, wt_6 _ (List.mem_of_getElem? (i := 71) rfl), wt_7 _ (List.mem_of_getElem? (i := 222) rfl), wt_7 _ (List.mem_of_getElem? (i := 223) rfl)⟩
set_option maxRecDepth 20000 in
theorem lw_p81 : lw_okq (⟨"RansomHymnModel", "isPart", "(II)Z"⟩, 69) := ⟨⟨by decide +kernel, by decide +kernel⟩, wt_6 _ (List.mem_of_getElem? (i := 71) rfl), wt_7 _ (List.mem_of_getElem? (i := 226) rfl), wt_7 _ (List.mem_of_getElem? (i := 227) rfl)⟩
set_option maxRecDepth 20000 in
theorem lw_p82 : lw_okq (⟨"RansomHymnModel", "dueOf", "(II)I"⟩, 69) := ⟨⟨by decide +kernel, by decide +kernel⟩, wt_6 _ (List.mem_of_getElem? (i := 71) rfl), wt_7 _ (List.mem_of_getElem? (i := 238) rfl), wt_7 _ (List.mem_of_getElem? (i := 239) rfl)⟩
set_option maxRecDepth 20000 in
theorem lw_p83 : lw_okq (⟨"RansomHymnModel", "calls", "(I)V"⟩, 69) := ⟨⟨by decide +kernel, by decide +kernel⟩, wt_6 _ (List.mem_of_getElem? (i := 71) rfl), wt_8 _ (List.mem_of_getElem? (i := 2) rfl), wt_8 _ (List.mem_of_getElem? (i := 3) rfl)⟩
set_option maxRecDepth 20000 in
theorem lw_p84 : lw_okq (⟨"RansomHymnModel", "soundsOf", "(II)I"⟩, 69) := ⟨⟨by decide +kernel, by decide +kernel⟩, wt_6 _ (List.mem_of_getElem? (i := 71) rfl), wt_8 _ (List.mem_of_getElem? (i := 6) rfl), wt_8 _ (List.mem_of_getElem? (i := 7) rfl)⟩
set_option maxRecDepth 20000 in
theorem lw_p85 : lw_okq (⟨"RansomHymnModel", "isSounded", "(III)Z"⟩, 69) := ⟨⟨by decide +kernel, by decide +kernel⟩, wt_6 _ (List.mem_of_getElem? (i := 71) rfl), wt_8 _ (List.mem_of_getElem? (i := 10) rfl), wt_8 _ (List.mem_of_getElem? (i := 11) rfl)⟩
set_option maxRecDepth 20000 in
theorem lw_p86 : lw_okq (⟨"RansomHymnModel", "reaches", "(II)Z"⟩, 69) := ⟨⟨by decide +kernel, by decide +kernel⟩, wt_6 _ (List.mem_of_getElem? (i := 71) rfl), wt_8 _ (List.mem_of_getElem? (i := 14) rfl), wt_8 _ (List.mem_of_getElem? (i := 15) rfl)⟩
set_option maxRecDepth 20000 in
theorem lw_p87 : lw_okq (⟨"RansomHymnModel", "restsOf", "(I)I"⟩, 69) := ⟨⟨by decide +kernel, by decide +kernel⟩, wt_6 _ (List.mem_of_getElem? (i := 71) rfl), wt_8 _ (List.mem_of_getElem? (i := 18) rfl), wt_8 _ (List.mem_of_getElem? (i := 19) rfl)⟩
set_option maxRecDepth 20000 in
theorem lw_p88 : lw_okq (⟨"RansomHymnModel", "highOf", "(I)I"⟩, 69) := ⟨⟨by decide +kernel, by decide +kernel⟩, wt_6 _ (List.mem_of_getElem? (i := 71) rfl), wt_8 _ (List.mem_of_getElem? (i := 22) rfl), wt_8 _ (List.mem_of_getElem? (i := 23) rfl)⟩
set_option maxRecDepth 20000 in
theorem lw_p89 : lw_okq (⟨"RansomHymnModel", "within", "(III)I"⟩, 69) := ⟨⟨by decide +kernel, by decide +kernel⟩, wt_6 _ (List.mem_of_getElem? (i := 71) rfl), wt_8 _ (List.mem_of_getElem? (i := 27) rfl), wt_8 _ (List.mem_of_getElem? (i := 28) rfl)⟩
set_option maxRecDepth 20000 in
theorem lw_p90 : lw_okq (⟨"RansomHymnModel", "goes", "(I)Z"⟩, 69) := ⟨⟨by decide +kernel, by decide +kernel⟩, wt_6 _ (List.mem_of_getElem? (i := 71) rfl), wt_8 _ (List.mem_of_getElem? (i := 31) rfl), wt_8 _ (List.mem_of_getElem? (i := 32) rfl)⟩
set_option maxRecDepth 20000 in
theorem lw_p91 : lw_okq (⟨"RansomHymnModel", "works", "(I)Z"⟩, 69) := ⟨⟨by decide +kernel, by decide +kernel⟩, wt_6 _ (List.mem_of_getElem? (i := 71) rfl), wt_8 _ (List.mem_of_getElem? (i := 35) rfl), wt_8 _ (List.mem_of_getElem? (i := 36) rfl)⟩
set_option maxRecDepth 20000 in
theorem lw_p92 : lw_okq (⟨"RansomHymnModel", "bidOf", "(III)I"⟩, 69) := ⟨⟨by decide +kernel, by decide +kernel⟩, wt_6 _ (List.mem_of_getElem? (i := 71) rfl), wt_8 _ (List.mem_of_getElem? (i := 55) rfl), wt_8 _ (List.mem_of_getElem? (i := 56) rfl)⟩
set_option maxRecDepth 20000 in
theorem lw_p93 : lw_okq (⟨"RansomHymnModel", "crackOf", "(II)I"⟩, 69) := ⟨⟨by decide +kernel, by decide +kernel⟩, wt_6 _ (List.mem_of_getElem? (i := 71) rfl), wt_8 _ (List.mem_of_getElem? (i := 64) rfl), wt_8 _ (List.mem_of_getElem? (i := 65) rfl)⟩
set_option maxRecDepth 20000 in
theorem lw_p94 : lw_okq (⟨"RansomHymnModel", "singsIn", "(II)Z"⟩, 69) := ⟨⟨by decide +kernel, by decide +kernel⟩, wt_6 _ (List.mem_of_getElem? (i := 71) rfl), wt_8 _ (List.mem_of_getElem? (i := 72) rfl), wt_8 _ (List.mem_of_getElem? (i := 73) rfl)⟩
set_option maxRecDepth 20000 in
theorem lw_p95 : lw_okq (⟨"RansomHymnModel", "draw", "()I"⟩, 69) := ⟨⟨by decide +kernel, by decide +kernel⟩, wt_6 _ (List.mem_of_getElem? (i := 71) rfl), wt_8 _ (List.mem_of_getElem? (i := 92) rfl), wt_8 _ (List.mem_of_getElem? (i := 93) rfl)⟩
def lw_privs_6 : List (MethodName × Nat) := [(⟨"RansomHymnModel", "isVerse", "(I)Z"⟩, 69), (⟨"RansomHymnModel", "isPart", "(II)Z"⟩, 69), (⟨"RansomHymnModel", "dueOf", "(II)I"⟩, 69), (⟨"RansomHymnModel", "calls", "(I)V"⟩, 69), (⟨"RansomHymnModel", "soundsOf", "(II)I"⟩, 69), (⟨"RansomHymnModel", "isSounded", "(III)Z"⟩, 69), (⟨"RansomHymnModel", "reaches", "(II)Z"⟩, 69), (⟨"RansomHymnModel", "restsOf", "(I)I"⟩, 69), (⟨"RansomHymnModel", "highOf", "(I)I"⟩, 69), (⟨"RansomHymnModel", "within", "(III)I"⟩, 69), (⟨"RansomHymnModel", "goes", "(I)Z"⟩, 69), (⟨"RansomHymnModel", "works", "(I)Z"⟩, 69), (⟨"RansomHymnModel", "bidOf", "(III)I"⟩, 69), (⟨"RansomHymnModel", "crackOf", "(II)I"⟩, 69), (⟨"RansomHymnModel", "singsIn", "(II)Z"⟩, 69), (⟨"RansomHymnModel", "draw", "()I"⟩, 69)]
theorem lw_r6 : ∀ q ∈ lw_privs_6, lw_okq q := List.forall_mem_cons.mpr ⟨lw_p80, List.forall_mem_cons.mpr ⟨lw_p81, List.forall_mem_cons.mpr ⟨lw_p82, List.forall_mem_cons.mpr ⟨lw_p83, List.forall_mem_cons.mpr ⟨lw_p84, List.forall_mem_cons.mpr ⟨lw_p85, List.forall_mem_cons.mpr ⟨lw_p86, List.forall_mem_cons.mpr ⟨lw_p87, List.forall_mem_cons.mpr ⟨lw_p88, List.forall_mem_cons.mpr ⟨lw_p89, List.forall_mem_cons.mpr ⟨lw_p90, List.forall_mem_cons.mpr ⟨lw_p91, List.forall_mem_cons.mpr ⟨lw_p92, List.forall_mem_cons.mpr ⟨lw_p93, List.forall_mem_cons.mpr ⟨lw_p94, List.forall_mem_cons.mpr ⟨lw_p95, fun _ h => absurd h List.not_mem_nil⟩⟩⟩⟩⟩⟩⟩⟩⟩⟩⟩⟩⟩⟩⟩⟩
set_option maxRecDepth 20000 in
theorem lw_p96 : lw_okq (⟨"RansomHymnModel", "layBest", "(I)V"⟩, 69) := ⟨⟨by decide +kernel, by decide +kernel⟩, wt_6 _ (List.mem_of_getElem? (i := 71) rfl), wt_8 _ (List.mem_of_getElem? (i := 105) rfl), wt_8 _ (List.mem_of_getElem? (i := 106) rfl)⟩
set_option maxRecDepth 20000 in
theorem lw_p97 : lw_okq (⟨"RansomHymnModel", "layDues", "()V"⟩, 69) := ⟨⟨by decide +kernel, by decide +kernel⟩, wt_6 _ (List.mem_of_getElem? (i := 71) rfl), wt_8 _ (List.mem_of_getElem? (i := 109) rfl), wt_8 _ (List.mem_of_getElem? (i := 110) rfl)⟩
set_option maxRecDepth 20000 in
theorem lw_p98 : lw_okq (⟨"RansomHymnModel", "starts", "()V"⟩, 69) := ⟨⟨by decide +kernel, by decide +kernel⟩, wt_6 _ (List.mem_of_getElem? (i := 71) rfl), wt_8 _ (List.mem_of_getElem? (i := 113) rfl), wt_8 _ (List.mem_of_getElem? (i := 114) rfl)⟩
set_option maxRecDepth 20000 in
theorem lw_p99 : lw_okq (⟨"RansomHymnModel", "mayBe", "(I)Z"⟩, 69) := ⟨⟨by decide +kernel, by decide +kernel⟩, wt_6 _ (List.mem_of_getElem? (i := 71) rfl), wt_8 _ (List.mem_of_getElem? (i := 117) rfl), wt_8 _ (List.mem_of_getElem? (i := 118) rfl)⟩
set_option maxRecDepth 20000 in
theorem lw_p100 : lw_okq (⟨"RansomHymnModel", "costOf", "(I)I"⟩, 69) := ⟨⟨by decide +kernel, by decide +kernel⟩, wt_6 _ (List.mem_of_getElem? (i := 71) rfl), wt_8 _ (List.mem_of_getElem? (i := 121) rfl), wt_8 _ (List.mem_of_getElem? (i := 122) rfl)⟩
set_option maxRecDepth 20000 in
theorem lw_p101 : lw_okq (⟨"RansomHymnModel", "gainOf", "(I)I"⟩, 69) := ⟨⟨by decide +kernel, by decide +kernel⟩, wt_6 _ (List.mem_of_getElem? (i := 71) rfl), wt_8 _ (List.mem_of_getElem? (i := 125) rfl), wt_8 _ (List.mem_of_getElem? (i := 126) rfl)⟩
set_option maxRecDepth 20000 in
theorem lw_p102 : lw_okq (⟨"RansomHymnModel", "tries", "(IIII)V"⟩, 69) := ⟨⟨by decide +kernel, by decide +kernel⟩, wt_6 _ (List.mem_of_getElem? (i := 71) rfl), wt_8 _ (List.mem_of_getElem? (i := 129) rfl), wt_8 _ (List.mem_of_getElem? (i := 130) rfl)⟩
set_option maxRecDepth 20000 in
theorem lw_p103 : lw_okq (⟨"RansomHymnModel", "goesNext", "(I)Z"⟩, 69) := ⟨⟨by decide +kernel, by decide +kernel⟩, wt_6 _ (List.mem_of_getElem? (i := 71) rfl), wt_8 _ (List.mem_of_getElem? (i := 133) rfl), wt_8 _ (List.mem_of_getElem? (i := 134) rfl)⟩
set_option maxRecDepth 20000 in
theorem lw_p104 : lw_okq (⟨"RansomHymnModel", "isBest", "(II)Z"⟩, 69) := ⟨⟨by decide +kernel, by decide +kernel⟩, wt_6 _ (List.mem_of_getElem? (i := 71) rfl), wt_8 _ (List.mem_of_getElem? (i := 141) rfl), wt_8 _ (List.mem_of_getElem? (i := 142) rfl)⟩
set_option maxRecDepth 20000 in
theorem lw_p105 : lw_okq (⟨"RansomHymnModel", "areVerses", "(I)Z"⟩, 69) := ⟨⟨by decide +kernel, by decide +kernel⟩, wt_6 _ (List.mem_of_getElem? (i := 71) rfl), wt_8 _ (List.mem_of_getElem? (i := 149) rfl), wt_8 _ (List.mem_of_getElem? (i := 150) rfl)⟩
set_option maxRecDepth 20000 in
theorem lw_p106 : lw_okq (⟨"RansomHymnModel", "sells", "(II)I"⟩, 69) := ⟨⟨by decide +kernel, by decide +kernel⟩, wt_6 _ (List.mem_of_getElem? (i := 71) rfl), wt_8 _ (List.mem_of_getElem? (i := 153) rfl), wt_8 _ (List.mem_of_getElem? (i := 154) rfl)⟩
set_option maxRecDepth 20000 in
theorem lw_p107 : lw_okq (⟨"RansomHymnModel", "strikes", "()V"⟩, 69) := ⟨⟨by decide +kernel, by decide +kernel⟩, wt_6 _ (List.mem_of_getElem? (i := 71) rfl), wt_8 _ (List.mem_of_getElem? (i := 177) rfl), wt_8 _ (List.mem_of_getElem? (i := 178) rfl)⟩
set_option maxRecDepth 20000 in
theorem lw_p108 : lw_okq (⟨"RansomHymnModel", "knownMany", "()I"⟩, 69) := ⟨⟨by decide +kernel, by decide +kernel⟩, wt_6 _ (List.mem_of_getElem? (i := 71) rfl), wt_8 _ (List.mem_of_getElem? (i := 181) rfl), wt_8 _ (List.mem_of_getElem? (i := 182) rfl)⟩
set_option maxRecDepth 20000 in
theorem lw_p109 : lw_okq (⟨"RansomHymnModel", "isThief", "(I)Z"⟩, 69) := ⟨⟨by decide +kernel, by decide +kernel⟩, wt_6 _ (List.mem_of_getElem? (i := 71) rfl), wt_8 _ (List.mem_of_getElem? (i := 185) rfl), wt_8 _ (List.mem_of_getElem? (i := 186) rfl)⟩
set_option maxRecDepth 20000 in
theorem lw_p110 : lw_okq (⟨"RansomHymnModel", "isHummed", "(I)Z"⟩, 69) := ⟨⟨by decide +kernel, by decide +kernel⟩, wt_6 _ (List.mem_of_getElem? (i := 71) rfl), wt_8 _ (List.mem_of_getElem? (i := 189) rfl), wt_8 _ (List.mem_of_getElem? (i := 190) rfl)⟩
set_option maxRecDepth 20000 in
theorem lw_p111 : lw_okq (⟨"RansomHymnModel", "isGang", "(I)Z"⟩, 69) := ⟨⟨by decide +kernel, by decide +kernel⟩, wt_6 _ (List.mem_of_getElem? (i := 71) rfl), wt_8 _ (List.mem_of_getElem? (i := 208) rfl), wt_8 _ (List.mem_of_getElem? (i := 209) rfl)⟩
def lw_privs_7 : List (MethodName × Nat) := [(⟨"RansomHymnModel", "layBest", "(I)V"⟩, 69), (⟨"RansomHymnModel", "layDues", "()V"⟩, 69), (⟨"RansomHymnModel", "starts", "()V"⟩, 69), (⟨"RansomHymnModel", "mayBe", "(I)Z"⟩, 69), (⟨"RansomHymnModel", "costOf", "(I)I"⟩, 69), (⟨"RansomHymnModel", "gainOf", "(I)I"⟩, 69), (⟨"RansomHymnModel", "tries", "(IIII)V"⟩, 69), (⟨"RansomHymnModel", "goesNext", "(I)Z"⟩, 69), (⟨"RansomHymnModel", "isBest", "(II)Z"⟩, 69), (⟨"RansomHymnModel", "areVerses", "(I)Z"⟩, 69), (⟨"RansomHymnModel", "sells", "(II)I"⟩, 69), (⟨"RansomHymnModel", "strikes", "()V"⟩, 69), (⟨"RansomHymnModel", "knownMany", "()I"⟩, 69), (⟨"RansomHymnModel", "isThief", "(I)Z"⟩, 69), (⟨"RansomHymnModel", "isHummed", "(I)Z"⟩, 69), (⟨"RansomHymnModel", "isGang", "(I)Z"⟩, 69)]
theorem lw_r7 : ∀ q ∈ lw_privs_7, lw_okq q := List.forall_mem_cons.mpr ⟨lw_p96, List.forall_mem_cons.mpr ⟨lw_p97, List.forall_mem_cons.mpr ⟨lw_p98, List.forall_mem_cons.mpr ⟨lw_p99, List.forall_mem_cons.mpr ⟨lw_p100, List.forall_mem_cons.mpr ⟨lw_p101, List.forall_mem_cons.mpr ⟨lw_p102, List.forall_mem_cons.mpr ⟨lw_p103, List.forall_mem_cons.mpr ⟨lw_p104, List.forall_mem_cons.mpr ⟨lw_p105, List.forall_mem_cons.mpr ⟨lw_p106, List.forall_mem_cons.mpr ⟨lw_p107, List.forall_mem_cons.mpr ⟨lw_p108, List.forall_mem_cons.mpr ⟨lw_p109, List.forall_mem_cons.mpr ⟨lw_p110, List.forall_mem_cons.mpr ⟨lw_p111, fun _ h => absurd h List.not_mem_nil⟩⟩⟩⟩⟩⟩⟩⟩⟩⟩⟩⟩⟩⟩⟩⟩
set_option maxRecDepth 20000 in
theorem lw_p112 : lw_okq (⟨"RansomHymnModel", "rows", "(IIIII)V"⟩, 69) := ⟨⟨by decide +kernel, by decide +kernel⟩, wt_6 _ (List.mem_of_getElem? (i := 71) rfl), wt_8 _ (List.mem_of_getElem? (i := 219) rfl), wt_8 _ (List.mem_of_getElem? (i := 220) rfl)⟩
set_option maxRecDepth 20000 in
theorem lw_p113 : lw_okq (⟨"RansomHymnModel", "hasOf", "(II)I"⟩, 69) := ⟨⟨by decide +kernel, by decide +kernel⟩, wt_6 _ (List.mem_of_getElem? (i := 71) rfl), wt_8 _ (List.mem_of_getElem? (i := 231) rfl), wt_8 _ (List.mem_of_getElem? (i := 232) rfl)⟩
set_option maxRecDepth 20000 in
theorem lw_p114 : lw_okq (⟨"RansomHymnModel", "copies", "(II)V"⟩, 69) := ⟨⟨by decide +kernel, by decide +kernel⟩, wt_6 _ (List.mem_of_getElem? (i := 71) rfl), wt_9 _ (List.mem_of_getElem? (i := 9) rfl), wt_9 _ (List.mem_of_getElem? (i := 10) rfl)⟩
def lw_privs_8 : List (MethodName × Nat) := [(⟨"RansomHymnModel", "rows", "(IIIII)V"⟩, 69), (⟨"RansomHymnModel", "hasOf", "(II)I"⟩, 69), (⟨"RansomHymnModel", "copies", "(II)V"⟩, 69)]
theorem lw_r8 : ∀ q ∈ lw_privs_8, lw_okq q := List.forall_mem_cons.mpr ⟨lw_p112, List.forall_mem_cons.mpr ⟨lw_p113, List.forall_mem_cons.mpr ⟨lw_p114, fun _ h => absurd h List.not_mem_nil⟩⟩⟩
def lw_privs : List (MethodName × Nat) := lw_privs_1 ++ (lw_privs_2 ++ (lw_privs_3 ++ (lw_privs_4 ++ (lw_privs_5 ++ (lw_privs_6 ++ (lw_privs_7 ++ (lw_privs_8)))))))
def lw_tbl : List Cond := k2_sels lw_privs ++ tables_1
theorem lw_privs_ok : ∀ q ∈ lw_privs, lw_okq q := by
  show ∀ q ∈ lw_privs_1 ++ (lw_privs_2 ++ (lw_privs_3 ++ (lw_privs_4 ++ (lw_privs_5 ++ (lw_privs_6 ++ (lw_privs_7 ++ (lw_privs_8))))))), lw_okq q
  exact List.forall_mem_append.mpr ⟨lw_r1, List.forall_mem_append.mpr ⟨lw_r2, List.forall_mem_append.mpr ⟨lw_r3, List.forall_mem_append.mpr ⟨lw_r4, List.forall_mem_append.mpr ⟨lw_r5, List.forall_mem_append.mpr ⟨lw_r6, List.forall_mem_append.mpr ⟨lw_r7, lw_r8⟩⟩⟩⟩⟩⟩⟩
end
section
/-! ===== BEGIN words of one list among another's, by their places ===== -/
/-! ===== END ===== -/

/-! ===== BEGIN exceptions that leave a method, and their catching by the caller (launches without stack traces) ===== -/
section VXA
/-! The laws vx_back, vx_callV, vx_callS, vx_callSW, vx_throw0, vx_throwS follow proofs of the library, with one case more: JvmDerived/Free/Laws.lean (Back.of_free), Shelf42/LK1.lean (callV, callS), Shelf/KitTraced.lean (throwNew0V, throwNewS). -/
/-- where a method has thrown q: the class by its name, the cell, what was written, the world -/
def vx_T (XC : String → State → State → Prop) (st : State) (q : Addr) (t : State) (mc ms : Nat) (free : Addr → Prop) : Prop :=
  ∃ (E : String) (ce : Cell) (L : List Loc), XC E st t ∧ t.heap[q]? = some ce ∧ ce.vm = .none ∧ st.vm.findClass E = some ce.cls ∧ st.WarmedH t.vm ∧ st.sameButNew ({ t with vm := st.vm } : State) L mc ms ∧ ∀ z ∈ L, free z.base
def vx_Q (Qc : Array Value → State → Outcome → State → Prop) (XC : String → State → State → Prop) (mc ms : Nat) (free : Addr → Prop) : Array Value → State → Outcome → State → Prop := fun a st o t =>
  (Qc a st o t ∧ ∃ L, FrameEnd st o t L mc ms ∧ ∀ q ∈ L, free q.base) ∨ ∃ q, o = .threw q ∧ vx_T XC st q t mc ms free
/-- a callee that returns or throws -/
def vx_Met (l : Launch) (y : MethodName) (ws : List Cond) (rm : Room) (Pc : Array Value → State → Prop) (Qc : Array Value → State → Outcome → State → Prop) (XC : String → State → State → Prop) (mc ms : Nat) (free : Addr → Prop) : Prop :=
  MetFree l y (headSpec ws rm) Pc (fun _ _ _ _ _ => True) (vx_Q Qc XC mc ms free)
def vx_Post (XC : String → State → State → Prop) (mc ms : Nat) (free : Addr → Prop) : Pt → Array Value → Addr → Pt → Prop := fun A a q B =>
  ∃ (g : JFrame) (mk : MethodId) (t : State) (L : List Loc) (E : String) (ce : Cell), B.U.heap = t.heap ∧ B.U.vm = t.vm ∧ XC E (A.U.calling g mk a) t ∧ t.heap[q]? = some ce ∧ ce.vm = .none ∧ A.U.vm.findClass E = some ce.cls ∧ B.locs = A.locs ++ L ∧ (∀ z ∈ L, free z.base) ∧ B.cells = A.cells + mc ∧ B.slots = A.slots + ms
def vx_Back (l : Launch) (R : Room) (p : Program) (e : Env) (below : List Frame) (s : State) (sargs : Array Value) (y : MethodName) (len W9 : Nat)
    (Pre : Pt → Array Value → Prop) (Post : Pt → Array Value → Option Value → Pt → Prop) (PostX : Pt → Array Value → Addr → Pt → Prop) : Prop :=
  ∀ (m : MethodId) (meth : Method) (c : Code) (A : Pt) (g : JFrame) (ig : Instr) (mk : MethodId) (a : Array Value),
    Stand p l e R s m sargs below meth c A.U A.locs A.cells A.slots → g.method = m → g.locals.size = c.maxLocals → decode c.code g.pc = .ok (ig, len) →
    2 * g.monitorRoom + (g.stack.map fun v => v.category).sum ≤ W9 → A.U.methodNamed? y = some mk → Pre A a →
    (∃ (v : Option Value) (B : Pt), Stand p l e R s m sargs below meth c B.U B.locs B.cells B.slots ∧ Post A a v B ∧
      Steps p.tables e below (doInvoke e (A.U.setTop g) [] mk a).1 (B.U.setTop { g with pc := g.pc + len, stack := v.toList ++ g.stack })) ∨
    (∃ (q : Addr) (B : Pt), Stand p l e R s m sargs below meth c B.U B.locs B.cells B.slots ∧ PostX A a q B ∧
      Steps p.tables e below (doInvoke e (A.U.setTop g) [] mk a).1 ((B.U.setTop g).pushFrame (.throwing q)))
section Payer
variable {l : Launch} {R : Room} {p : Program} {e : Env} {below : List Frame} {s : State} {sargs : Array Value} {y : MethodName} {len W9 : Nat}
theorem vx_back {ws : List Cond} {rm : Room} {Pc : Array Value → State → Prop} {Qc : Array Value → State → Outcome → State → Prop} {XC : String → State → State → Prop} {mc ms : Nat} {free : Addr → Prop} {bytes : ByteArray} {maxL : Nat} {ret : Option FieldType}
    (hM : vx_Met l y ws rm Pc Qc XC mc ms free) (hblind : FrameBlind Pc) (hrc : rm.cells = mc) (hrs : rm.slots = ms)
    (hframes : rm.frames + 1 ≤ R.frames) (hlocals : W9 + (maxL + 11) + rm.locals ≤ R.locals)
    (hws : ∀ w ∈ ws, ∀ a' U, s.WarmedH U.vm → w.before a' U = true) (hcode : Cond.code y bytes maxL ret ∈ ws) (hinit : ∀ a' U, s.WarmedH U.vm → (Cond.initialized y.cls).before a' U = true) :
    vx_Back l R p e below s sargs y len W9 (PreOf R mc ms Pc) (PostOf Qc mc ms free) (vx_Post XC mc ms free) := by
  intro m meth c A g ig mk a X hg hsize hdg hW hn hp
  have h1 : (headSpec ws rm).pre.before a A.U = true := atoms_intro fun w hw => hws w hw _ _ X.warmed
  have h2 : (Cond.code y bytes maxL ret).before a A.U = true := hws _ hcode _ _ X.warmed
  have h3 : (Cond.initialized y.cls).before a A.U = true := hinit _ _ X.warmed
  have h4 : A.cells + (headSpec ws rm).room.cells ≤ R.cells := by rw [show (headSpec ws rm).room.cells = mc from hrc]; exact hp.1
  have h5 : A.slots + (headSpec ws rm).room.slots ≤ R.slots := by rw [show (headSpec ws rm).room.slots = ms from hrs]; exact hp.2.1
  have hPc : Pc a (A.U.calling g mk a) := hblind _ _ _ _ hp.2.2
  obtain ⟨U, Ls, c0, s0⟩ := A
  dsimp only [Pt.U, Pt.locs, Pt.cells, Pt.slots] at h1 h2 h3 h4 h5 X hn hPc ⊢
  obtain ⟨methY, cY, hmY, hcY, -, hlY, -, -, -, -⟩ := Cond.code_spec hn h2
  obtain ⟨kY, hkY, -⟩ := className_of_methodNamed hn
  have hinitY : kY.init = .initialized := Cond.initialized_spec (findClass_of_methodNamed hn) hkY h3
  have h : At U g.method c below := by rw [hg]; exact X.here
  have hlocals9 : W9 + (maxL + 11) + (headSpec ws rm).room.locals ≤ R.locals := hlocals
  have happ : (headSpec ws rm).appliesLoose y e.platform (U.calling g mk a) = true :=
    Spec.appliesLoose_calling (g := g) h hdg hn hkY hinitY
      (X.room_calling (g := g) (R' := (headSpec ws rm).room) hsize hmY hcY hframes (by rw [hlY]; omega) h4 h5) h1
  obtain ⟨mid, hmid⟩ := h.above
  have hfr : (U.setTop g).frames = (.java g :: mid) ++ below := by rw [State.frames_setTop' g h.top, hmid]; rfl
  obtain ⟨o, s₂, hsteps, -, hend, hq⟩ := Steps.callFree hM p X.admits X.cas X.clock (acts := []) hfr happ hPc trivial
  have hq' : vx_Q Qc XC mc ms free a (U.calling g mk a) o s₂ := hq
  rw [State.frames_setTop' g h.top] at hend
  obtain ⟨g₀, hg0⟩ := Option.isSome_iff_exists.mp h.top
  obtain ⟨r, hr⟩ := State.topJava?_eq_some.mp hg0
  have hr' : (({ U with heap := s₂.heap, slotsUsed := s₂.slotsUsed } : State).setVm s₂.vm).frames = .java g₀ :: r := hr
  rcases hq' with ⟨hqc, L, hfe, hL⟩ | ⟨q, rfl, E, ce, L, hx, hce, hcv, hcl, hW₂, hsm, hL⟩
  · obtain ⟨⟨v, rfl⟩, hW₂, e2, q2, q3, q4, q5, q6⟩ := id hfe
    have e3 : s₂ = ({ (U.calling g mk a).setFrames s₂.frames with heap := s₂.heap, slotsUsed := s₂.slotsUsed } : State).setVm s₂.vm := by
      have : s₂ = ({ s₂ with vm := (U.calling g mk a).vm } : State).setVm s₂.vm := rfl
      rw [e2] at this
      exact this
    obtain ⟨c₂, i₂, len₂, hc₂, hd₂, hf₂⟩ := hend
    have hW' : U.WarmedH s₂.vm := hW₂
    have hcc : c₂ = c := by
      have h1 : s₂.code? g.method = U.code? g.method := by
        rw [State.code?_eq, State.code?_eq, hW'.alike.method?]
      exact Option.some.inj (hc₂.symm.trans (h1.trans h.code))
    subst hcc
    have hlen : len₂ = len := by rw [hdg] at hd₂; cases hd₂; rfl
    subst hlen
    have hs₂ : s₂ = (({ U with heap := s₂.heap, slotsUsed := s₂.slotsUsed } : State).setVm s₂.vm).setTop { g with pc := g.pc + len₂, stack := v.toList ++ g.stack } := by
      refine e3.trans ?_
      rw [hf₂, State.calling_eq h.top, State.setFrames_setFrames, State.setTop_of_frames _ hr', hr]
      rfl
    have hsame : U.sameButNew ({ U with heap := s₂.heap, slotsUsed := s₂.slotsUsed } : State) L mc ms := by
      refine ⟨?_, q2, q3, q4, q5, q6⟩
      obtain ⟨t, ht, -⟩ := State.frames_cons hr
      show ({ U with heap := s₂.heap, slotsUsed := s₂.slotsUsed } : State) = { U.setFrames U.frames with heap := s₂.heap, slotsUsed := s₂.slotsUsed }
      rw [State.setFrames_self ht]
    subst hg
    refine Or.inl ⟨v, ⟨(({ U with heap := s₂.heap, slotsUsed := s₂.slotsUsed } : State).setVm s₂.vm), Ls ++ L, c0 + mc, s0 + ms⟩,
      ⟨X.admits, X.cas, X.clock, X.frames, X.room, X.hears, X.method, X.code, (X.here.setHeapUsed s₂.heap s₂.slotsUsed).setVm hW'.alike, X.tail, State.WarmedH.trans X.warmed hW', X.limits, X.bytes, X.same.trans (hsame.setVm s.vm)⟩,
      ⟨g, mk, s₂, L, rfl, rfl, hqc, rfl, hL, rfl, rfl⟩, ?_⟩
    show Steps p.tables e below _ ((({ U with heap := s₂.heap, slotsUsed := s₂.slotsUsed } : State).setVm s₂.vm).setTop { g with pc := g.pc + len₂, stack := v.toList ++ g.stack })
    rw [← hs₂]
    exact hsteps
  · obtain ⟨e2, q2, q3, q4, q5, q6⟩ := id hsm
    have e3 : s₂ = ({ (U.calling g mk a).setFrames s₂.frames with heap := s₂.heap, slotsUsed := s₂.slotsUsed } : State).setVm s₂.vm := by
      have : s₂ = ({ s₂ with vm := (U.calling g mk a).vm } : State).setVm s₂.vm := rfl
      rw [e2] at this
      exact this
    have hf₂ : s₂.frames = .throwing q :: .java g :: U.frames.tail := hend
    have hW' : U.WarmedH s₂.vm := hW₂
    have hs₂ : s₂ = ((({ U with heap := s₂.heap, slotsUsed := s₂.slotsUsed } : State).setVm s₂.vm).setTop g).pushFrame (.throwing q) := by
      refine e3.trans ?_
      rw [hf₂, State.calling_eq h.top, State.setFrames_setFrames, State.pushFrame, State.frames_setTop _ hr', State.setTop_of_frames _ hr', State.setFrames_setFrames, hr]
      rfl
    have hsame : U.sameButNew ({ U with heap := s₂.heap, slotsUsed := s₂.slotsUsed } : State) L mc ms := by
      refine ⟨?_, q2, q3, q4, q5, q6⟩
      obtain ⟨t, ht, -⟩ := State.frames_cons hr
      show ({ U with heap := s₂.heap, slotsUsed := s₂.slotsUsed } : State) = { U.setFrames U.frames with heap := s₂.heap, slotsUsed := s₂.slotsUsed }
      rw [State.setFrames_self ht]
    subst hg
    refine Or.inr ⟨q, ⟨(({ U with heap := s₂.heap, slotsUsed := s₂.slotsUsed } : State).setVm s₂.vm), Ls ++ L, c0 + mc, s0 + ms⟩,
      ⟨X.admits, X.cas, X.clock, X.frames, X.room, X.hears, X.method, X.code, (X.here.setHeapUsed s₂.heap s₂.slotsUsed).setVm hW'.alike, X.tail, State.WarmedH.trans X.warmed hW', X.limits, X.bytes, X.same.trans (hsame.setVm s.vm)⟩,
      ⟨g, mk, s₂, L, E, ce, rfl, rfl, hx, hce, hcv, hcl, rfl, hL, rfl, rfl⟩, ?_⟩
    show Steps p.tables e below _ (((({ U with heap := s₂.heap, slotsUsed := s₂.slotsUsed } : State).setVm s₂.vm).setTop g).pushFrame (.throwing q))
    rw [← hs₂]
    exact hsteps
end Payer
section Calls
variable {p : Program} {l : Launch} {e : Env} {R : Room} {s : State} {m : MethodId} {args : Array Value} {below : List Frame} {meth : Method} {c : Code} {T : State} {locs : List Loc} {cells slots : Nat}
theorem vx_callV (X : Stand p l e R s m args below meth c T locs cells slots) (hexec : p.tables.exec = Jvm.exec) {own C : String} {index : Nat} {y : MethodName} {bytes : ByteArray} {maxL : Nat} {ret : Option FieldType}
    (hown : s.vm.findClass own = some m.cls) (hlink : (Cond.methodLink own index y).before args s = true) (hinst : (Cond.instanceMethod y).before args s = true) (hsel : (Cond.selects C y y).before args s = true)
    (hcode : (Cond.code y bytes maxL ret).before args s = true) (hy : y.cls ≠ "java/lang/invoke/MethodHandle" ∧ y.cls ≠ "java/lang/invoke/VarHandle")
    {W9 : Nat} {Pre : Pt → Array Value → Prop} {Post : Pt → Array Value → Option Value → Pt → Prop} {PostX : Pt → Array Value → Addr → Pt → Prop} (hK : vx_Back l R p e below s args y 3 W9 Pre Post PostX)
    {b : Addr} {cellB : Cell} (hcell : T.heap[b]? = some cellB) (hobj : cellB.vm.isStatics = false) (hcls : s.vm.findClass C = some cellB.cls)
    {g : JFrame} (hg : g.method = m) (hsize : g.locals.size = c.maxLocals) {argsL rest : List Value} (hlen : ∀ sig, parseMethodDescriptor y.desc = some sig → argsL.length = sig.parameters.length)
    (hstack : g.stack = argsL.reverse ++ .ref b :: rest) (hW : 2 * g.monitorRoom + (rest.map fun v => v.category).sum ≤ W9) (hdg : decode c.code g.pc = .ok (.invokevirtual index, 3))
    (hpre : ∀ vm₁, s.WarmedH vm₁ → Pre ⟨T.setVm vm₁, locs, cells, slots⟩ (Value.ref b :: argsL).toArray) :
    (∃ (v : Option Value) (vm₁ : Vm) (B : Pt), s.WarmedH vm₁ ∧ Stand p l e R s m args below meth c B.U B.locs B.cells B.slots ∧ Post ⟨T.setVm vm₁, locs, cells, slots⟩ (Value.ref b :: argsL).toArray v B ∧
      ∀ target, Steps p.tables e below (B.U.setTop { g with pc := g.pc + 3, stack := v.toList ++ rest }) target → Steps p.tables e below (T.setTop g) target) ∨
    (∃ (q : Addr) (vm₁ : Vm) (B : Pt), s.WarmedH vm₁ ∧ Stand p l e R s m args below meth c B.U B.locs B.cells B.slots ∧ PostX ⟨T.setVm vm₁, locs, cells, slots⟩ (Value.ref b :: argsL).toArray q B ∧
      Steps p.tables e below (T.setTop g) ((B.U.setTop { g with stack := rest }).pushFrame (.throwing q))) := by
  obtain ⟨mk, methM, hnamed, hmethM, hstM, habM⟩ := Cond.instanceMethod_spec hinst
  obtain ⟨methM', cM, hmethM', -, -, -, -, -, -, hsigM⟩ := Cond.code_spec hnamed hcode
  cases hmethM.symm.trans hmethM'
  obtain ⟨c2, r2, m2, q1, q2, q3, q4, kP, hkP, hkPi⟩ := Cond.selects_spec hsel
  cases hcls.symm.trans q1
  cases (State.methodFound?_of_named hnamed hy).symm.trans q2
  cases hnamed.symm.trans q3
  have hselP : selectMethod e.platform s.vm cellB.cls mk = .method mk := by rw [Launch.admits_selectMethod X.admits]; exact q4
  obtain ⟨vm₁, X₁, hstep₁⟩ := X.invokevirtual hexec hown hlink hnamed hmethM hstM hkP hkPi hy (a := b) (cell := cellB) hcell
    (fun z h => by rw [h] at hobj; cases hobj) hselP hmethM habM hkP hkPi (g := g) hg (argsL := argsL) (rest := rest) (hlen _ hsigM) hstack hdg
  rcases hK m meth c ⟨T.setVm vm₁, locs, cells, slots⟩ { g with stack := rest } (.invokevirtual index) mk (Value.ref b :: argsL).toArray X₁ hg hsize hdg hW (X₁.named hnamed) (hpre vm₁ X₁.warmed) with ⟨v, B, X', hpost, hsteps⟩ | ⟨q, B, X', hpost, hsteps⟩
  · exact Or.inl ⟨v, vm₁, B, X₁.warmed, X', hpost, fun target h => hstep₁ _ fun acts => by rw [doInvoke_state]; exact hsteps.trans h⟩
  · exact Or.inr ⟨q, vm₁, B, X₁.warmed, X', hpost, hstep₁ _ fun acts => by rw [doInvoke_state]; exact hsteps⟩
theorem vx_callS (X : Stand p l e R s m args below meth c T locs cells slots) (hexec : p.tables.exec = Jvm.exec) {own : String} {index : Nat} {y : MethodName} {bytes : ByteArray} {maxL : Nat} {ret : Option FieldType}
    (hown : s.vm.findClass own = some m.cls) (hlink : (Cond.methodLink own index y).before args s = true) (hstat : (Cond.static y).before args s = true) (hinit : (Cond.initialized y.cls).before args s = true)
    (hcode : (Cond.code y bytes maxL ret).before args s = true) (hy : y.cls ≠ "java/lang/invoke/MethodHandle" ∧ y.cls ≠ "java/lang/invoke/VarHandle")
    {W9 : Nat} {Pre : Pt → Array Value → Prop} {Post : Pt → Array Value → Option Value → Pt → Prop} {PostX : Pt → Array Value → Addr → Pt → Prop} (hK : vx_Back l R p e below s args y 3 W9 Pre Post PostX)
    {g : JFrame} (hg : g.method = m) (hsize : g.locals.size = c.maxLocals) {argsL rest : List Value} (hlen : ∀ sig, parseMethodDescriptor y.desc = some sig → argsL.length = sig.parameters.length)
    (hstack : g.stack = argsL.reverse ++ rest) (hW : 2 * g.monitorRoom + (rest.map fun v => v.category).sum ≤ W9) (hdg : decode c.code g.pc = .ok (.invokestatic index, 3))
    (hpre : ∀ vm₁, s.WarmedH vm₁ → Pre ⟨T.setVm vm₁, locs, cells, slots⟩ argsL.toArray) :
    (∃ (v : Option Value) (vm₁ : Vm) (B : Pt), s.WarmedH vm₁ ∧ Stand p l e R s m args below meth c B.U B.locs B.cells B.slots ∧ Post ⟨T.setVm vm₁, locs, cells, slots⟩ argsL.toArray v B ∧
      ∀ target, Steps p.tables e below (B.U.setTop { g with pc := g.pc + 3, stack := v.toList ++ rest }) target → Steps p.tables e below (T.setTop g) target) ∨
    (∃ (q : Addr) (vm₁ : Vm) (B : Pt), s.WarmedH vm₁ ∧ Stand p l e R s m args below meth c B.U B.locs B.cells B.slots ∧ PostX ⟨T.setVm vm₁, locs, cells, slots⟩ argsL.toArray q B ∧
      Steps p.tables e below (T.setTop g) ((B.U.setTop { g with stack := rest }).pushFrame (.throwing q))) := by
  obtain ⟨mk, hnamed⟩ := Cond.code_named hcode
  obtain ⟨methM, cM, hmethM, -, -, -, -, -, -, hsigM⟩ := Cond.code_spec hnamed hcode
  have hstatic : methM.isStatic = true := Cond.static_spec hnamed hmethM hstat
  obtain ⟨kP, hkP, -⟩ := className_of_methodNamed hnamed
  have hinitP : kP.init = .initialized := Cond.initialized_spec (findClass_of_methodNamed hnamed) hkP hinit
  obtain ⟨vm₁, X₁, hstep₁⟩ := X.invokestatic hexec hown hlink hnamed hmethM hstatic hkP hinitP hy (g := g) hg (argsL := argsL) (rest := rest) (hlen _ hsigM) hstack hdg
  rcases hK m meth c ⟨T.setVm vm₁, locs, cells, slots⟩ { g with stack := rest } (.invokestatic index) mk argsL.toArray X₁ hg hsize hdg hW (X₁.named hnamed) (hpre vm₁ X₁.warmed) with ⟨v, B, X', hpost, hsteps⟩ | ⟨q, B, X', hpost, hsteps⟩
  · exact Or.inl ⟨v, vm₁, B, X₁.warmed, X', hpost, fun target h => hstep₁ _ fun acts => by rw [doInvoke_state]; exact hsteps.trans h⟩
  · exact Or.inr ⟨q, vm₁, B, X₁.warmed, X', hpost, hstep₁ _ fun acts => by rw [doInvoke_state]; exact hsteps⟩
end Calls
theorem vx_cls {s : State} {T : State} {vm₁ : Vm} {E : String} {k : ClassId} (hW : s.WarmedH vm₁) (h : (T.setVm vm₁).vm.findClass E = some k) : s.vm.findClass E = some k := by
  have h1 : vm₁.findClass E = some k := h
  rw [hW.alike.findClass] at h1
  exact h1
/-- the method's frame g, with q thrown over it -/
def vx_W (p : Program) (l : Launch) (e : Env) (R : Room) (s : State) (m : MethodId) (args : Array Value) (below : List Frame) (meth : Method) (c : Code) (H : Heap) (locs : List Loc) (cells slots : Nat) (Q : State → Prop) (g : JFrame) (q : Addr) : Prop :=
  ∀ T : State, T.heap = H → Stand p l e R s m args below meth c T locs cells slots → ∃ t, Steps p.tables e below ((T.setTop g).pushFrame (.throwing q)) t ∧ Q t
def vx_Run (p : Program) (l : Launch) (e : Env) (R : Room) (s : State) (m : MethodId) (args : Array Value) (below : List Frame) (meth : Method) (c : Code) (H : Heap) (locs : List Loc) (cells slots mc ms : Nat) (g : JFrame) (rest : List Value) (Qa : State → Outcome → State → Prop) (XC : String → State → State → Prop) (free : Addr → Prop) : Prop :=
  ∀ T : State, T.heap = H → Stand p l e R s m args below meth c T locs cells slots →
    (∃ (v : Option Value) (st₀ t T' : State) (L : List Loc), st₀.heap = H ∧ Stand p l e R s m args below meth c T' (locs ++ L) (cells + mc) (slots + ms) ∧ (∀ q ∈ L, free q.base) ∧ T'.heap = t.heap ∧ T'.vm = t.vm ∧ Qa st₀ (.returned v) t ∧
      Goes p e below T g T' { g with pc := g.pc + 3, stack := v.toList ++ rest }) ∨
    (∃ (q : Addr) (st₀ t T' : State) (L : List Loc) (E : String) (ce : Cell), st₀.heap = H ∧ Stand p l e R s m args below meth c T' (locs ++ L) (cells + mc) (slots + ms) ∧ (∀ z ∈ L, free z.base) ∧ T'.heap = t.heap ∧ T'.vm = t.vm ∧ XC E st₀ t ∧ t.heap[q]? = some ce ∧ ce.vm = .none ∧ s.vm.findClass E = some ce.cls ∧
      Steps p.tables e below (T.setTop g) ((T'.setTop { g with stack := rest }).pushFrame (.throwing q)))
def vx_X {S : Type} (px : S → Prop) (B : String → S → State → Prop) (A : Nat → Prop) : String → State → State → Prop := fun E st t => ∃ u : S, px u ∧ B E u t ∧ va_F A st t
section Runs
variable {p : Program} {l : Launch} {e : Env} {R : Room} {s : State} {m : MethodId} {args : Array Value} {below : List Frame} {meth : Method} {c : Code} {H : Heap} {locs : List Loc} {cells slots : Nat}
variable {y : MethodName} {bytes cc : ByteArray} {maxL nL mc ms n index : Nat} {ret : Option FieldType} {ws : List Cond} {rm : Room} {Pc : Array Value → State → Prop} {Qc : Array Value → State → Outcome → State → Prop} {XC : String → State → State → Prop} {free : Addr → Prop} {Ts : List Cond} {own C : String} {b : Addr} {As rest : List Value} {g : JFrame}
theorem vx_callBack (cb : CallB R s args own index y bytes maxL ret ws rm mc ms n) (hM : vx_Met l y ws rm Pc Qc XC mc ms free) (hbl : FrameBlind Pc) : vx_Back l R p e below s args y 3 8 (PreOf R mc ms Pc) (PostOf Qc mc ms free) (vx_Post XC mc ms free) := by
  obtain ⟨hrc, hrs, hfr, hlo, hws, hcw, -, hini, -⟩ := cb
  exact vx_back (bytes := bytes) (maxL := maxL) (ret := ret) hM hbl hrc hrs hfr hlo hws hcw (fun a' U hW => word_at hW (Or.inl (by first | rfl | simp [Cond.onTables, Cond.keeps, Cond.steady])) hini)
theorem vx_runV (S : CallFix p m c cc nL s args Ts own) (hM : vx_Met l y ws rm Pc Qc XC mc ms free) (cw : CallW R s args own C index y bytes maxL ret ws rm mc ms n) (hp : PreV s H C b Pc As)
    (hg : g.method = m) (hn : As.length = n) (hsize : g.locals.size = nL) (hstack : g.stack = As.reverse ++ .ref b :: rest) (hW : 2 * g.monitorRoom + (rest.map fun v => v.category).sum ≤ 8) (hdg : decode cc g.pc = .ok (.invokevirtual index, 3)) (hf : cells + mc ≤ R.cells ∧ slots + ms ≤ R.slots) :
    vx_Run p l e R s m args below meth c H locs cells slots mc ms g rest (Qc (Value.ref b :: As).toArray) XC free := by
  have hK : vx_Back l R p e below s args y 3 8 (PreOf R mc ms Pc) (PostOf Qc mc ms free) (vx_Post XC mc ms free) := vx_callBack cw.1 hM hp.1
  obtain ⟨⟨-, -, -, -, -, -, hcode, -, hy, hlen, hl⟩, hin, hse⟩ := cw
  obtain ⟨hx, hb, hml, ho, -⟩ := S
  obtain ⟨-, ⟨cellB, hcB, hoB, hclB⟩, hPc⟩ := hp
  intro T hT X
  rcases vx_callV X hx (C := C) (bytes := bytes) (maxL := maxL) (ret := ret) ho hl hin hse hcode hy hK (by rw [hT]; exact hcB) hoB hclB hg (hsize.trans hml.symm) (argsL := As) (rest := rest) (fun sig h => hn.trans (hlen sig h)) hstack hW (by rw [hb]; exact hdg)
    (fun vm₁ hW₁ => ⟨hf.1, hf.2, hPc (T.setVm vm₁) hT hW₁⟩) with ⟨v, vm₁, ⟨U', l2, c2, s2⟩, hW₁, X', ⟨g', mk, t, L, e1, e2, hq, h1, hL, h2, h3⟩, st⟩ | ⟨q, vm₁, ⟨U', l2, c2, s2⟩, hW₁, X', ⟨g', mk, t, L, E, ce, e1, e2, hq, hce, hcv, hcl, h1, hL, h2, h3⟩, st⟩
  · dsimp only [Pt.U, Pt.locs, Pt.cells, Pt.slots] at X' e1 e2 h1 h2 h3 st
    subst h1; subst h2; subst h3
    exact Or.inl ⟨v, (T.setVm vm₁).calling g' mk (Value.ref b :: As).toArray, t, U', L, hT, X', hL, e1, e2, hq, st⟩
  · dsimp only [Pt.U, Pt.locs, Pt.cells, Pt.slots] at X' e1 e2 h1 h2 h3 st hcl
    subst h1; subst h2; subst h3
    exact Or.inr ⟨q, (T.setVm vm₁).calling g' mk (Value.ref b :: As).toArray, t, U', L, E, ce, hT, X', hL, e1, e2, hq, hce, hcv, vx_cls hW₁ hcl, st⟩
end Runs
section Rows
variable {p : Program} {l : Launch} {e : Env} {R : Room} {s : State} {m : MethodId} {args : Array Value} {below : List Frame} {meth : Method} {c : Code} {H : Heap} {locs : List Loc} {cells slots : Nat} {Q : State → Prop}
variable {mc ms : Nat} {free : Addr → Prop} {A0 A1 : Nat → Prop} {H0 : Heap} {a : Array Value} {pc : Nat} {ls : Array Slot} {st0 rest : List Value}
theorem vx_keep {st₀ t T' : State} {L : List Loc} (h0 : st₀.heap = H) (e1 : T'.heap = t.heap) (hS : va_S A0 H0 H locs) (hA : ∀ q, q < H.size → A1 q → A0 q) (hf : ∀ q, free q → A0 q) (hL : ∀ q ∈ L, free q.base) (hF : va_F A1 st₀ t) :
    H.size ≤ T'.heap.size ∧ (∀ q : Nat, q < H.size → ¬ A1 q → T'.heap[q]? = H[q]?) ∧ va_S A0 H0 T'.heap (locs ++ L) := by
  obtain ⟨hz, hk⟩ := hF
  rw [h0] at hz hk
  exact ⟨by rw [e1]; exact hz, fun q h1 h2 => by rw [e1]; exact hk q h1 h2,
    ⟨Nat.le_trans hS.1 (by rw [e1]; exact hz), fun q h1 h2 => by rw [e1, hk q (Nat.lt_of_lt_of_le h1 hS.1) (fun z => h2 (hA q (Nat.lt_of_lt_of_le h1 hS.1) z))]; exact hS.2.1 q h1 h2, fun q hq => by
      rcases List.mem_append.mp hq with h | h
      · exact hS.2.2 q h
      · exact hf _ (hL q h)⟩⟩
theorem vx_calli {S SX : Type} {post : Int32 → S → Prop} {px : SX → Prop} {B : S → State → Prop} {BX : String → SX → State → Prop} {AX : Nat → Prop} (hr : vx_Run p l e R s m args below meth c H locs cells slots mc ms (F0 m pc ls st0) rest (va_Qi post B A1 a) (vx_X px BX AX) free) (hS : va_S A0 H0 H locs) (hA : ∀ q, q < H.size → A1 q → A0 q) (hf : ∀ q, free q → A0 q) (hAX : ∀ q, q < H.size → AX q → A0 q)
    (kx : ∀ (E : String) (ce : Cell) (q9 : Addr) (u : SX) (t : State) (H1 : Heap) (locs1 : List Loc), t.heap = H1 → s.vm.Alike t.vm → px u → BX E u t → H.size ≤ H1.size → (∀ q : Nat, q < H.size → ¬ AX q → H1[q]? = H[q]?) → va_S A0 H0 H1 locs1 → H1[q9]? = some ce → ce.vm = .none → s.vm.findClass E = some ce.cls → vx_W p l e R s m args below meth c H1 locs1 (cells + mc) (slots + ms) Q (F0 m pc ls rest) q9)
    (kk : ∀ (r : Int32) (u : S) (t : State) (H1 : Heap) (locs1 : List Loc), t.heap = H1 → s.vm.Alike t.vm → post r u → B u t → H.size ≤ H1.size → (∀ q : Nat, q < H.size → ¬ A1 q → H1[q]? = H[q]?) → va_S A0 H0 H1 locs1 → W p l e R s m args below meth c H1 locs1 (cells + mc) (slots + ms) Q (F0 m (pc + 3) ls (.int r :: rest))) : W p l e R s m args below meth c H locs cells slots Q (F0 m pc ls st0) := by
  intro T hT X
  rcases hr T hT X with ⟨v, st₀, t, T', L, h0, X', hL, e1, e2, ⟨⟨r, u, hv, hp, hb⟩, hF⟩, st⟩ | ⟨q, st₀, t, T', L, E, ce, h0, X', hL, e1, e2, ⟨u, hp, hb, hF⟩, hce, hcv, hcl, st⟩
  · cases hv
    obtain ⟨k1, k2, k3⟩ := vx_keep h0 e1 hS hA hf hL hF
    obtain ⟨t2, a1, b1⟩ := kk r u t T'.heap (locs ++ L) e1.symm (by rw [← e2]; exact X'.warmed.alike) hp hb k1 k2 k3 T' rfl X'
    exact ⟨t2, st t2 a1, b1⟩
  · obtain ⟨k1, k2, k3⟩ := vx_keep h0 e1 hS hAX hf hL hF
    obtain ⟨t2, a1, b1⟩ := kx E ce q u t T'.heap (locs ++ L) e1.symm (by rw [← e2]; exact X'.warmed.alike) hp hb k1 k2 k3 (by rw [e1]; exact hce) hcv hcl T' rfl X'
    exact ⟨t2, st.trans a1, b1⟩
/-- caught by the row x of this method's table; the rows ahead don't take it -/
theorem vx_catch {own name : String} {E : String} {ce : Cell} {q : Addr} (hown : s.vm.findClass own = some m.cls) (pre : List ExceptionTableEntry) (x : ExceptionTableEntry) (suf : List ExceptionTableEntry) (hsplit : c.exceptionTable.toList = pre ++ x :: suf)
    (hpass : ∀ z ∈ pre, covers z pc = false ∨ (z.catchType ≠ 0 ∧ ∃ nm : String, (Cond.classLink own z.catchType nm).before args s = true ∧ va_Nc E nm s)) (hx : covers x pc = true) (h0 : x.catchType ≠ 0)
    (hlink : (Cond.classLink own x.catchType name).before args s = true) (hcast : (Cond.castable E name).before args s = true) (hcell : H[q]? = some ce) (hv : ce.vm = .none) (hcl : s.vm.findClass E = some ce.cls)
    (kk : W p l e R s m args below meth c H locs cells slots Q (F0 m x.handlerPc ls [.ref q])) : vx_W p l e R s m args below meth c H locs cells slots Q (F0 m pc ls rest) q := by
  intro T hT X
  have hpl : e.platform.magicAccessors = ({} : Platform).magicAccessors := by rw [X.admits.platform]
  obtain ⟨c3, c4, hc3, hc4, hasg⟩ := Cond.castable_spec hcast
  cases Option.some.inj (hc3.symm.trans hcl)
  obtain ⟨c5, hc5, hcl5⟩ := Cond.classLink_spec hown hlink e.platform hpl
  cases Option.some.inj (hc4.symm.trans hc5)
  obtain ⟨vm', X', st⟩ := X.thenCaughtThrough q (g := F0 m pc ls rest) rfl (Steps.refl _) (by rw [hT]; exact hcell) (by rw [hv]; rfl) (by obtain ⟨k9, h9, -⟩ := Vm.findClass_spec hcl; exact ⟨k9, h9⟩) pre x suf hsplit
    (fun z hz => by
      rcases hpass z hz with h | ⟨hz0, nm, hl1, hn1⟩
      · exact Or.inl h
      · obtain ⟨c6, hc6, hcl6⟩ := Cond.classLink_spec hown hl1 e.platform hpl
        obtain ⟨a8, b8, h1, h2, h3⟩ := hn1
        cases Option.some.inj (h1.symm.trans hcl)
        cases Option.some.inj (h2.symm.trans hc6)
        exact Or.inr ⟨hz0, _, hcl6, h3⟩) hx (Or.inr ⟨h0, c4, hcl5, hasg⟩)
  obtain ⟨t, a1, b1⟩ := kk (T.setVm vm') hT X'
  exact ⟨t, st.trans a1, b1⟩
end Rows
section Ends
variable {p : Program} {l : Launch} {e : Env} {R : Room} {s : State} {m : MethodId} {args : Array Value} {below : List Frame} {meth : Method} {c : Code} {H : Heap} {locs : List Loc} {cells slots : Nat} {Q : State → Prop}
variable {mc ms : Nat} {free : Addr → Prop} {A0 A1 : Nat → Prop} {H0 : Heap} {a : Array Value} {ls : Array Slot} {st0 rest : List Value}
variable {Qc : Array Value → State → Outcome → State → Prop} {XC : String → State → State → Prop}
/-- what a body that may throw owes at its end -/
def vx_MQ (below : List Frame) (Qc : Array Value → State → Outcome → State → Prop) (XC : String → State → State → Prop) (a : Array Value) (s : State) (mc ms : Nat) (free : Addr → Prop) : State → Prop := fun t =>
  ∃ o, t.status = .running ∧ Ended t below o ∧ vx_Q Qc XC mc ms free a s o t
theorem vx_ret {g : JFrame} {mc ms : Nat} (k : W p l e R s m args below meth c H locs cells slots (MQ below Qc args s mc ms free) g) : W p l e R s m args below meth c H locs cells slots (vx_MQ below Qc XC args s mc ms free) g := by
  intro T hT X
  obtain ⟨t, a1, o, b1, b2, b3, b4⟩ := k T hT X
  exact ⟨t, a1, o, b1, b2, Or.inl ⟨b3, b4⟩⟩
theorem vx_frame {U : State} {k n : Nat} (h : s.sameButNew ({ U with vm := s.vm } : State) locs k n) : s.heap.size ≤ U.heap.size ∧ ∀ q : Nat, q < s.heap.size → (∀ z ∈ locs, z.base ≠ q) → U.heap[q]? = s.heap[q]? := by
  obtain ⟨-, h2, -, -, -, h6⟩ := h
  refine ⟨h2, fun q hq hz => ?_⟩
  obtain ⟨c9, e1, e2, e3, e4⟩ := h6 q _ (Array.getElem?_eq_getElem hq)
  have hs : c9.slots = (s.heap[q]).slots := Array.ext_getElem? fun i => e4 i fun hm => hz _ hm rfl
  have h9 : c9 = s.heap[q] := by
    rw [hs] at e2
    exact e2
  have e5 : U.heap[q]? = some c9 := e1
  rw [e5, h9, Array.getElem?_eq_getElem hq]
/-- the words of a throw but the four that speak of the heap -/
def vx_no (w : Cond) : Bool := decide (w ≠ .isRef (.static Bundle.tN "UNASSIGNED_STACK" Bundle.steD)) && decide (w ≠ .isRef (.static Bundle.tN "SUPPRESSED_SENTINEL" Bundle.listD)) && decide (w ≠ .laysStatic Bundle.tN "UNASSIGNED_STACK" Bundle.steD) && decide (w ≠ .laysStatic Bundle.tN "SUPPRESSED_SENTINEL" Bundle.listD)
def vx_at0 (own : String) (ic : Nat) (X : String) (names : List String) : List Cond := (Bundle.ownAtoms0 own ic X names).filter vx_no
def vx_atS (own : String) (ic : Nat) (X : String) (names : List String) : List Cond := (Bundle.ownAtoms own ic X names).filter vx_no
/-- a word that the tables alone decide, or a good one -/
def vx_ot (w : Cond) : Bool := w.onTables || goodWord w
theorem vx_ot_at {args a' : Array Value} {s U : State} {w : Cond} (hW : s.WarmedH U.vm) (hvm : s.vm = U.vm) (hg : vx_ot w = true) (h : w.before args s = true) : w.before a' U = true := by
  simp only [vx_ot, Bool.or_eq_true] at hg
  rcases hg with hg | hg
  · exact va_tabs hg hvm h
  · exact word_at hW (good_of_word hg) h
theorem vx_own {args : Array Value} {s : State} {L : List Cond} (h1 : ∀ w ∈ L.filter vx_no, w.before args s = true)
    (hU : (Cond.isRef (.static Bundle.tN "UNASSIGNED_STACK" Bundle.steD)).before args s = true) (hN : (Cond.isRef (.static Bundle.tN "SUPPRESSED_SENTINEL" Bundle.listD)).before args s = true)
    (lU : (Cond.laysStatic Bundle.tN "UNASSIGNED_STACK" Bundle.steD).before args s = true) (lN : (Cond.laysStatic Bundle.tN "SUPPRESSED_SENTINEL" Bundle.listD).before args s = true) : ∀ w ∈ L, w.before args s = true := by
  intro w hw
  by_cases e1 : w = .isRef (.static Bundle.tN "UNASSIGNED_STACK" Bundle.steD)
  · rw [e1]; exact hU
  · by_cases e2 : w = .isRef (.static Bundle.tN "SUPPRESSED_SENTINEL" Bundle.listD)
    · rw [e2]; exact hN
    · by_cases e3 : w = .laysStatic Bundle.tN "UNASSIGNED_STACK" Bundle.steD
      · rw [e3]; exact lU
      · by_cases e4 : w = .laysStatic Bundle.tN "SUPPRESSED_SENTINEL" Bundle.listD
        · rw [e4]; exact lN
        · exact h1 w (List.mem_filter.mpr ⟨hw, by unfold vx_no; rw [decide_eq_true e1, decide_eq_true e2, decide_eq_true e3, decide_eq_true e4]; rfl⟩)
/-- where a static field lies, its class's statics cell in H -/
def vx_L (C n d : String) (A : Nat → Prop) (U : State) (H : Heap) : Prop := ∃ (c : ClassId) (k : Class) (i : Nat) (f : Field) (a : Nat) (cell : Cell), U.vm.findClass C = some c ∧ U.fieldFound? C n d = some (c, k, i, f) ∧ f.isStatic = true ∧ k.statics = some a ∧ H[a]? = some cell ∧ cell.vm.isStatics = true ∧ cell.cls = c ∧ f.slot < cell.slots.size ∧ k.staticTypes[f.slot]? = some f.type ∧ ¬ A a
theorem vx_L.moved {C n d : String} {A : Nat → Prop} {u U : State} {H : Heap} (hvm : u.vm.Alike U.vm) (h : vx_L C n d A u H) : vx_L C n d A U H := by
  obtain ⟨c, k, i, f, a, cell, h1, h2, h3, h4, h5, h6, h7, h8, h9, h10⟩ := h
  obtain ⟨k', hi', he⟩ := State.fieldFound?_setVm hvm h2
  exact ⟨c, k', i, f, a, cell, by rw [hvm.findClass]; exact h1, hi', h3, by rw [he]; exact h4, h5, h6, h7, h8, by rw [he]; exact h9, h10⟩
theorem vx_L.kept {C n d : String} {A : Nat → Prop} {U : State} {H H1 : Heap} (h : vx_L C n d A U H) (hq : ∀ a : Nat, a < H.size → ¬ A a → H1[a]? = H[a]?) : vx_L C n d A U H1 := by
  obtain ⟨c, k, i, f, a, cell, h1, h2, h3, h4, h5, h6, h7, h8, h9, h10⟩ := h
  exact ⟨c, k, i, f, a, cell, h1, h2, h3, h4, by rw [hq a (Array.getElem?_eq_some_iff.mp h5).1 h10]; exact h5, h6, h7, h8, h9, h10⟩
theorem vx_L.narrow {C n d : String} {A B : Nat → Prop} {U : State} {H : Heap} (h : vx_L C n d A U H) (hAB : ∀ q, B q → A q) : vx_L C n d B U H := by
  obtain ⟨c, k, i, f, a, cell, h1, h2, h3, h4, h5, h6, h7, h8, h9, h10⟩ := h
  exact ⟨c, k, i, f, a, cell, h1, h2, h3, h4, h5, h6, h7, h8, h9, fun z => h10 (hAB _ z)⟩
theorem vx_L.word {C n d : String} {A : Nat → Prop} {s : State} {args : Array Value} (h : vx_L C n d A s s.heap) : (Cond.laysStatic C n d).before args s = true := by
  obtain ⟨c, k, i, f, a, cell, h1, h2, h3, h4, h5, h6, h7, h8, h9, -⟩ := h
  show (Cond.laysStatic C n d).holds args s none s [] = true
  exact Cond.laysStatic_of h1 h2 h3 h4 h5 h6 h7 h8 h9
/-- .. and what it holds: null or some reference -/
def vx_Zq (C n d : String) (A : Nat → Prop) (U : State) (H : Heap) : Prop := va_Zq C n d A U H ∧ vx_L C n d A U H
theorem vx_Zq.moved {C n d : String} {A : Nat → Prop} {u U : State} {H : Heap} (hvm : u.vm.Alike U.vm) (h : vx_Zq C n d A u H) : vx_Zq C n d A U H := ⟨va_Zq.moved hvm h.1, vx_L.moved hvm h.2⟩
theorem vx_Zq.kept {C n d : String} {A : Nat → Prop} {U : State} {H H1 : Heap} (h : vx_Zq C n d A U H) (hq : ∀ a : Nat, a < H.size → ¬ A a → H1[a]? = H[a]?) : vx_Zq C n d A U H1 := ⟨va_Zq.kept h.1 hq, vx_L.kept h.2 hq⟩
theorem vx_Zq.narrow {C n d : String} {A B : Nat → Prop} {U : State} {H : Heap} (h : vx_Zq C n d A U H) (hAB : ∀ q, B q → A q) : vx_Zq C n d B U H := ⟨va_Zq.narrow h.1 hAB, vx_L.narrow h.2 hAB⟩
theorem vx_Zqof {args : Array Value} {s : State} {C n d : String} {A : Nat → Prop} (hl : (Cond.laysStatic C n d).before args s = true) (hini : (Cond.initialized C).before args s = true) (h : (Cond.isRef (.static C n d)).before args s = true) (hA : ∀ a : Nat, a < s.heap.size → ¬ A a) : vx_Zq C n d A s s.heap := by
  refine ⟨va_Zqof hl hini h hA, ?_⟩
  obtain ⟨c, k, i, f, a, cell, h1, h2, h3, h4, h5, h6, h7, h8, h9⟩ := Cond.laysStatic_spec hl
  exact ⟨c, k, i, f, a, cell, h1, h2, h3, h4, h5, h6, h7, h8, h9, hA a (Array.getElem?_eq_some_iff.mp h5).1⟩
theorem vx_isRef {C n d : String} {v : Value} {A : Nat → Prop} {s : State} {args : Array Value} (h : va_Z C n d v A s s.heap) (hv : v.isRef = true) : (Cond.isRef (.static C n d)).before args s = true := by
  obtain ⟨cf, kf, fi, f, a, cell, h1, h2, h3, h4, h5, h6, h7, -⟩ := h
  have he : (Term.static C n d).eval args s none [] s = some v := by
    simp [Term.eval, State.fieldNamed?, h1, h2, h4, h5, h6, h7]
  simp only [Cond.before, Cond.holds, Cond.value, he]
  cases v <;> simp_all [Value.isRef]
theorem vx_isRefq {C n d : String} {A : Nat → Prop} {s : State} {args : Array Value} (h : va_Zq C n d A s s.heap) : (Cond.isRef (.static C n d)).before args s = true := by
  rcases h with h | ⟨t, h⟩
  · exact vx_isRef h rfl
  · exact vx_isRef h rfl
/-- the same frame, seen from here: as if the method were called anew in this heap -/
theorem vx_rebase {T : State} (X : Stand p l e R s m args below meth c T locs cells slots) {R' : Room} (hf : R'.frames ≤ R.frames) (hl : R'.locals ≤ R.locals) (hc : cells + R'.cells ≤ R.cells) (hs : slots + R'.slots ≤ R.slots) :
    Stand p l e R' ((T.setVm s.vm).setFrames (.invoking m args :: below)) m args below meth c T [] 0 0 := by
  have htop : (T.setVm s.vm).topJava?.isSome := X.here.top
  have hF : ((T.setVm s.vm).setFrames (.invoking m args :: below)).frames = .invoking m args :: below := State.frames_setFrames _ (State.cur_lt_of_top htop)
  obtain ⟨g₀, hg0⟩ := Option.isSome_iff_exists.mp htop
  obtain ⟨r, hr⟩ := State.topJava?_eq_some.mp hg0
  have hl9 : e.platform.stackLimits (T.setVm s.vm).me = e.platform.stackLimits s.me := X.limits
  have hb9 : (T.setVm s.vm).me.stackBytes = s.me.stackBytes := X.bytes
  refine ⟨X.admits, X.cas, X.clock, hF, ?_, X.hears, X.method, X.code, X.here, X.tail, X.warmed, ?_, ?_, ?_⟩
  · have h := X.room
    have hU : ((T.setVm s.vm).setFrames (.invoking m args :: below)).localsInUse = s.localsInUse := by
      rw [State.localsInUse_invoking hF (meth := meth) (c := c) X.method X.code, State.localsInUse_invoking X.frames X.method X.code]
    simp only [State.hasRoom, Bool.and_eq_true, decide_eq_true_eq] at h ⊢
    obtain ⟨⟨⟨⟨h1, h2, h3, h4, h5, h6⟩, h7⟩, h8⟩, h9⟩ := h
    rw [X.frames, List.length_cons] at h2 h3
    have q1 := X.heapSize
    have q2 := X.used
    simp only [hF, hU, List.length_cons, State.stackLimits_setFrames, State.stackBytes_setFrames, hl9, hb9]
    refine ⟨⟨⟨⟨by omega, by omega, by omega, by omega, by omega, h6⟩, ?_⟩, ?_⟩, X.book⟩
    · show T.heap.size + R'.cells ≤ e.platform.maxCells
      omega
    · show T.slotsUsed + R'.slots ≤ e.platform.maxSlots
      omega
  · rw [State.stackLimits_setFrames]; rfl
  · rw [State.stackBytes_setFrames]; rfl
  · refine ⟨?_, Nat.le_refl _, Nat.le_refl _, ?_, ?_, fun a c9 h9 => ⟨c9, h9, rfl, rfl, fun _ _ => rfl⟩⟩
    · obtain ⟨t, ht, -⟩ := State.frames_cons hr
      show T.setVm s.vm = { ((T.setVm s.vm).setFrames (.invoking m args :: below)).setFrames (T.setVm s.vm).frames with heap := T.heap, slotsUsed := T.slotsUsed }
      rw [State.setFrames_setFrames, State.setFrames_self ht]
      rfl
    · show T.slotsUsed = T.slotsUsed + ((T.heap.toList.drop T.heap.size).map (·.slots.size)).sum
      rw [List.drop_eq_nil_of_le (Nat.le_of_eq Array.length_toList)]
      rfl
    · show ((T.heap.toList.drop T.heap.size).map (·.slots.size)).sum ≤ 0
      rw [List.drop_eq_nil_of_le (Nat.le_of_eq Array.length_toList)]
      exact Nat.le_refl _
/-- 'throw new E()': new; dup; invokespecial; athrow -/
theorem vx_throw0 {cc : ByteArray} {pc : Nat} (hexec : p.tables.exec = Jvm.exec) (hb : c.code = cc) (hl : l.stackTraces = false) {own cls : String} {names : List String} {ik ic mc ms : Nat} {A : Nat → Prop}
    (hown : s.vm.findClass own = some m.cls) (hcls : Bundle.fit cls = true) (hnames : ∀ n ∈ names, Bundle.fit n = true)
    (hk : (Cond.classLink own ik cls).before args s = true) (hini : (Cond.initialized cls).before args s = true) (hat : ∀ w ∈ vx_at0 own ic cls names, w.before args s = true)
    (hgood : ∀ w ∈ Cond.classLink own ik cls :: Cond.initialized cls :: vx_at0 own ic cls names, vx_ot w = true)
    (hU : vx_Zq Bundle.tN "UNASSIGNED_STACK" Bundle.steD A s s.heap) (hN : vx_Zq Bundle.tN "SUPPRESSED_SENTINEL" Bundle.listD A s s.heap) (hS : va_S A s.heap H locs) (hsize : ls.size = c.maxLocals)
    (d0 : decode cc pc = .ok (.new ik, 3)) (d3 : decode cc (pc + 3) = .ok (.dup, 1)) (d4 : decode cc (pc + 4) = .ok (.invokespecial ic, 3)) (d7 : decode cc (pc + 7) = .ok (.athrow, 1))
    (hout : ∀ x ∈ c.exceptionTable.toList, covers x (pc + 7) = false)
    (hRframes : names.length + 3 < R.frames) (hRlocals : (rest.map fun v => v.category).sum + (13 * (names.length + 1) + 42) ≤ R.locals) (hRcells : cells + 1 ≤ R.cells) (hRslots : slots + 6 ≤ R.slots) (hlocks : meth.locks = false)
    (hx : ∀ t : State, s.vm.Alike t.vm → H.size ≤ t.heap.size → (∀ q : Nat, q < H.size → t.heap[q]? = H[q]?) → XC cls s t)
    (hf : ∀ z ∈ locs, free z.base) (hc : cells + 1 ≤ mc) (hs : slots + 6 ≤ ms) :
    W p l e R s m args below meth c H locs cells slots (vx_MQ below Qc XC args s mc ms free) (F0 m pc ls rest) := by
  intro T hT X
  have htr : e.platform.stackTraces = false := (show e.platform.stackTraces = l.stackTraces by rw [X.admits.platform]).trans hl
  have Y := vx_rebase X (R' := { frames := R.frames, locals := R.locals, cells := 1, slots := 6 }) (Nat.le_refl _) (Nat.le_refl _) hRcells hRslots
  obtain ⟨s', hA⟩ : ∃ z, z = (T.setVm s.vm).setFrames (.invoking m args :: below) := ⟨_, rfl⟩
  rw [← hA] at Y
  have hvm : s'.vm = s.vm := by rw [hA]; rfl
  have hhp : s'.heap = H := by rw [hA]; exact hT
  have hW0 : s.WarmedH s'.vm := by rw [hvm]; exact State.WarmedH.refl s
  have hat' : ∀ w ∈ vx_at0 own ic cls names, w.before args s' = true := fun w hw => vx_ot_at hW0 hvm.symm (hgood w (List.mem_cons_of_mem _ (List.mem_cons_of_mem _ hw))) (hat w hw)
  have hk' : (Cond.classLink own ik cls).before args s' = true := vx_ot_at hW0 hvm.symm (hgood _ List.mem_cons_self) hk
  have hini' : (Cond.initialized cls).before args s' = true := vx_ot_at hW0 hvm.symm (hgood _ (List.mem_cons_of_mem _ List.mem_cons_self)) hini
  have hU' : vx_Zq Bundle.tN "UNASSIGNED_STACK" Bundle.steD A s' s'.heap := by rw [hhp]; exact vx_Zq.moved hW0.alike (hU.kept hS.2.1)
  have hN' : vx_Zq Bundle.tN "SUPPRESSED_SENTINEL" Bundle.listD A s' s'.heap := by rw [hhp]; exact vx_Zq.moved hW0.alike (hN.kept hS.2.1)
  have h : ∀ w ∈ Bundle.ownAtoms0 own ic cls names, w.before args s' = true := vx_own hat' (vx_isRefq hU'.1) (vx_isRefq hN'.1) hU'.2.word hN'.2.word
  have hown' : s'.vm.findClass own = some m.cls := by rw [hvm]; exact hown
  have hins : (Cond.instantiable cls 6).before args s' = true := h _ (by simp [Bundle.ownAtoms0])
  obtain ⟨vm₁, cX, kX, hfX, hkX, -, -, X₁, st1⟩ := Y.newCold hexec (own := own) (C := cls) (index := ik) (n := 6) hown' hk' hins hini'
    (g := F0 m pc ls rest) rfl (by rw [hb]; exact d0) (Nat.le_refl _) (Nat.le_refl _)
  generalize hT1 : (T.setVm vm₁).pushCell { cls := cX, slots := kX.instanceTypes.map defaultValue, vm := .none } = T1 at X₁ st1
  have hcat : (Value.ref T.heap.size).category = 1 := rfl
  have hcellA : T1.heap[T.heap.size]? = some (freshCell cX kX) := by rw [← hT1]; exact State.heap_pushCell_size _ _
  have d3' : decode c.code (pc + 3) = .ok (.dup, 1) := by rw [hb]; exact d3
  obtain ⟨U, hsteps, hrun, hend, hW, hsame, ce, hce, hO⟩ := X₁.ctorThrow0 hexec htr (own := own) (cls := cls) (names := names) (ic := ic) hown' hcls hnames h (fun x hx => nomatch hx) hfX hkX hcellA (by rw [hhp, hT]; exact Nat.le_refl _)
    (g := { method := m, pc := pc + 4, locals := ls, stack := .ref T.heap.size :: .ref T.heap.size :: rest, locked := none }) rfl hsize rfl rfl (rest := rest) rfl
    (by rw [hb]; exact d4) (by rw [hb]; exact d7) hout hRframes (by simp only [List.map_cons, List.sum_cons, hcat]; omega) hlocks
  obtain ⟨f1, f2⟩ := vx_frame hsame
  rw [hhp] at f1 f2
  have hWs : s.WarmedH U.vm := State.WarmedH.trans hW0 hW
  have hcl : s.vm.findClass cls = some ce.cls := by
    have h9 := hO.cls
    rw [hvm] at h9
    exact h9
  have hall : s.sameButNew ({ U with vm := s.vm } : State) locs mc ms := by
    subst hA
    obtain ⟨e1, e2⟩ := hsame
    rw [State.setFrames_setFrames] at e1
    have h2 : (T.setVm s.vm).sameButNew ({ U with vm := s.vm } : State) [] (0 + 1) (0 + 6) := ⟨e1, e2⟩
    have h3 := X.same.trans h2
    rw [List.append_nil] at h3
    exact h3.mono hc hs
  refine ⟨U, ?_, .threw T.heap.size, hrun, hend, Or.inr ⟨T.heap.size, rfl, cls, ce, locs, hx U hWs.alike f1 (fun q hq => f2 q hq (fun z hz => nomatch hz)), hce, hO.vm, hcl, hWs, hall, hf⟩⟩
  refine st1 _ ?_
  show Steps p.tables e below (T1.setTop { method := m, pc := pc + 3, locals := ls, stack := .ref T.heap.size :: rest, locked := none }) _
  jvm_step X₁.here [X₁.here.top, hexec, d3', Value.category]
  exact hsteps
/-- 'throw new E("text")': new; dup; ldc; invokespecial; athrow -/
theorem vx_throwS {cc : ByteArray} {pc : Nat} (hexec : p.tables.exec = Jvm.exec) (hb : c.code = cc) (hl : l.stackTraces = false) {own cls text : String} {names : List String} {ik is ic mc ms sa : Nat} {A : Nat → Prop}
    (hown : s.vm.findClass own = some m.cls) (hcls : Bundle.fit cls = true) (hnames : ∀ n ∈ names, Bundle.fit n = true)
    (hk : (Cond.classLink own ik cls).before args s = true) (hini : (Cond.initialized cls).before args s = true) (hstr : vk_R own is text sa s) (hat : ∀ w ∈ vx_atS own ic cls names, w.before args s = true)
    (hgood : ∀ w ∈ Cond.classLink own ik cls :: Cond.initialized cls :: vx_atS own ic cls names, vx_ot w = true)
    (hU : vx_Zq Bundle.tN "UNASSIGNED_STACK" Bundle.steD A s s.heap) (hN : vx_Zq Bundle.tN "SUPPRESSED_SENTINEL" Bundle.listD A s s.heap) (hS : va_S A s.heap H locs) (hsize : ls.size = c.maxLocals)
    (d0 : decode cc pc = .ok (.new ik, 3)) (d3 : decode cc (pc + 3) = .ok (.dup, 1)) (d4 : decode cc (pc + 4) = .ok (.ldc is, 2)) (d6 : decode cc (pc + 6) = .ok (.invokespecial ic, 3)) (d9 : decode cc (pc + 9) = .ok (.athrow, 1))
    (hout : ∀ x ∈ c.exceptionTable.toList, covers x (pc + 9) = false)
    (hRframes : names.length + 3 < R.frames) (hRlocals : (rest.map fun v => v.category).sum + (13 * (names.length + 1) + 43) ≤ R.locals) (hRcells : cells + 1 ≤ R.cells) (hRslots : slots + 6 ≤ R.slots) (hlocks : meth.locks = false)
    (hx : ∀ t : State, s.vm.Alike t.vm → H.size ≤ t.heap.size → (∀ q : Nat, q < H.size → t.heap[q]? = H[q]?) → XC cls s t)
    (hf : ∀ z ∈ locs, free z.base) (hc : cells + 1 ≤ mc) (hs : slots + 6 ≤ ms) :
    W p l e R s m args below meth c H locs cells slots (vx_MQ below Qc XC args s mc ms free) (F0 m pc ls rest) := by
  intro T hT X
  have htr : e.platform.stackTraces = false := (show e.platform.stackTraces = l.stackTraces by rw [X.admits.platform]).trans hl
  have Y := vx_rebase X (R' := { frames := R.frames, locals := R.locals, cells := 1, slots := 6 }) (Nat.le_refl _) (Nat.le_refl _) hRcells hRslots
  obtain ⟨s', hA⟩ : ∃ z, z = (T.setVm s.vm).setFrames (.invoking m args :: below) := ⟨_, rfl⟩
  rw [← hA] at Y
  have hvm : s'.vm = s.vm := by rw [hA]; rfl
  have hhp : s'.heap = H := by rw [hA]; exact hT
  have hW0 : s.WarmedH s'.vm := by rw [hvm]; exact State.WarmedH.refl s
  have hat' : ∀ w ∈ vx_atS own ic cls names, w.before args s' = true := fun w hw => vx_ot_at hW0 hvm.symm (hgood w (List.mem_cons_of_mem _ (List.mem_cons_of_mem _ hw))) (hat w hw)
  have hk' : (Cond.classLink own ik cls).before args s' = true := vx_ot_at hW0 hvm.symm (hgood _ List.mem_cons_self) hk
  have hini' : (Cond.initialized cls).before args s' = true := vx_ot_at hW0 hvm.symm (hgood _ (List.mem_cons_of_mem _ List.mem_cons_self)) hini
  have hU' : vx_Zq Bundle.tN "UNASSIGNED_STACK" Bundle.steD A s' s'.heap := by rw [hhp]; exact vx_Zq.moved hW0.alike (hU.kept hS.2.1)
  have hN' : vx_Zq Bundle.tN "SUPPRESSED_SENTINEL" Bundle.listD A s' s'.heap := by rw [hhp]; exact vx_Zq.moved hW0.alike (hN.kept hS.2.1)
  have h : ∀ w ∈ Bundle.ownAtoms own ic cls names, w.before args s' = true := vx_own hat' (vx_isRefq hU'.1) (vx_isRefq hN'.1) hU'.2.word hN'.2.word
  have hown' : s'.vm.findClass own = some m.cls := by rw [hvm]; exact hown
  have hins : (Cond.instantiable cls 6).before args s' = true := h _ (by simp [Bundle.ownAtoms])
  obtain ⟨vm₁, cX, kX, hfX, hkX, -, -, X₁, st1⟩ := Y.newCold hexec (own := own) (C := cls) (index := ik) (n := 6) hown' hk' hins hini'
    (g := F0 m pc ls rest) rfl (by rw [hb]; exact d0) (Nat.le_refl _) (Nat.le_refl _)
  generalize hT1 : (T.setVm vm₁).pushCell { cls := cX, slots := kX.instanceTypes.map defaultValue, vm := .none } = T1 at X₁ st1
  have hcat : (Value.ref T.heap.size).category = 1 := rfl
  have hcellA : T1.heap[T.heap.size]? = some (freshCell cX kX) := by rw [← hT1]; exact State.heap_pushCell_size _ _
  have d3' : decode c.code (pc + 3) = .ok (.dup, 1) := by rw [hb]; exact d3
  have d4' : decode c.code (pc + 4) = .ok (.ldc is, 2) := by rw [hb]; exact d4
  have hstr' : vk_R own is text sa s' := vk_R.warm hW0 hstr
  obtain ⟨U, hsteps, hrun, hend, hW, hsame, ce, hce, hO⟩ := X₁.ctorThrowS hexec htr (own := own) (cls := cls) (names := names) (ic := ic) hown' hcls hnames h (fun x hx => nomatch hx) hfX hkX hcellA (by rw [hhp, hT]; exact Nat.le_refl _) (msg := .ref sa) rfl
    (g := { method := m, pc := pc + 6, locals := ls, stack := .ref sa :: .ref T.heap.size :: .ref T.heap.size :: rest, locked := none }) rfl hsize rfl rfl (rest := rest) rfl
    (by rw [hb]; exact d6) (by rw [hb]; exact d9) hout hRframes (by simp only [List.map_cons, List.sum_cons, hcat]; omega) hlocks
  obtain ⟨f1, f2⟩ := vx_frame hsame
  rw [hhp] at f1 f2
  have hWs : s.WarmedH U.vm := State.WarmedH.trans hW0 hW
  have hcl : s.vm.findClass cls = some ce.cls := by
    have h9 := hO.cls
    rw [hvm] at h9
    exact h9
  have hall : s.sameButNew ({ U with vm := s.vm } : State) locs mc ms := by
    subst hA
    obtain ⟨e1, e2⟩ := hsame
    rw [State.setFrames_setFrames] at e1
    have h2 : (T.setVm s.vm).sameButNew ({ U with vm := s.vm } : State) [] (0 + 1) (0 + 6) := ⟨e1, e2⟩
    have h3 := X.same.trans h2
    rw [List.append_nil] at h3
    exact h3.mono hc hs
  refine ⟨U, ?_, .threw T.heap.size, hrun, hend, Or.inr ⟨T.heap.size, rfl, cls, ce, locs, hx U hWs.alike f1 (fun q hq => f2 q hq (fun z hz => nomatch hz)), hce, hO.vm, hcl, hWs, hall, hf⟩⟩
  refine st1 _ ?_
  show Steps p.tables e below (T1.setTop { method := m, pc := pc + 3, locals := ls, stack := .ref T.heap.size :: rest, locked := none }) _
  jvm_step X₁.here [X₁.here.top, hexec, d3', Value.category]
  exact X₁.ldcString hexec (own := own) (text := text) (index := is) (a := sa) hown' hstr'.1 hstr'.2
    (g := { method := m, pc := pc + 4, locals := ls, stack := .ref T.heap.size :: .ref T.heap.size :: rest, locked := none }) rfl d4' _ hsteps
end Ends
section Bodies
variable {l : Launch}
theorem vx_ofW {y : MethodName} {ws ws' : List Cond} {rm : Room} {Pc : Array Value → State → Prop} {Qc : Array Value → State → Outcome → State → Prop} {XC : String → State → State → Prop} {mc ms : Nat} {free : Addr → Prop} {cc : ByteArray} {maxL : Nat} {ret : Option FieldType}
    (hy : plainName y.cls = true) (hw : ws = Cond.code y cc maxL ret :: ws')
    (body : ∀ p e s m args below meth c s₁, BodyLoose p l y (headSpec ws rm) cc maxL ret e s m args below meth c s₁ → c.maxLocals = maxL → (∀ x ∈ c.exceptionTable.toList, False) → Pc args s →
      W p l e (headSpec ws rm).room s m args below meth c s.heap [] 0 0 (vx_MQ below Qc XC args s mc ms free) (entryFrame m args maxL)) : vx_Met l y ws rm Pc Qc XC mc ms free := by
  refine MetFree.of_bodyS (code := cc) (maxLocals := maxL) (ret := ret) hy ?_ ?_
  · intro args s m h hn
    obtain ⟨meth, c, h1, h2, h3, h4, h5, h6, -, -⟩ := Cond.code_spec hn (atoms_spec (ws := ws) h _ (by rw [hw]; exact List.mem_cons_self))
    exact ⟨meth, c, h1, h2, h3, h4, h5, h6⟩
  · intro p e s m args below meth c s₁ B hml hP _
    have hh0 : s₁.heap = s.heap := by rw [B.state]; rfl
    have ht : ∀ x ∈ c.exceptionTable.toList, False := by
      obtain ⟨meth9, c9, h1, h2, -, -, -, -, h7, -⟩ := Cond.code_spec B.named (atoms_spec (ws := ws) B.pre _ (by rw [hw]; exact List.mem_cons_self))
      cases Option.some.inj (h1.symm.trans B.method)
      cases Option.some.inj (h2.symm.trans (Stand.of_body B).code)
      intro x hx
      rw [Array.isEmpty_iff.mp h7] at hx
      cases hx
    obtain ⟨t, a1, o, b1, b2, b3⟩ := body p e s m args below meth c s₁ B hml ht hP s₁ hh0 (Stand.of_body B)
    exact ⟨t, o, a1, b1, b2, b3⟩
/-- the table of a body with handlers -/
theorem vx_table {p : Program} {x y : MethodName} {S : Spec} {cc bytes : ByteArray} {maxL maxL' : Nat} {ret ret' : Option FieldType} {e : Env} {s s₁ : State} {m : MethodId} {args : Array Value} {below : List Frame} {meth : Method} {c : Code} {hh : List (Nat × Nat × Nat × Nat)}
    (B : BodyLoose p l y S cc maxL ret e s m args below meth c s₁) (h : (Cond.codeWith y bytes maxL' ret' hh).before args s = true) : c.exceptionTable.toList = tableOf hh := by
  obtain ⟨m9, meth9, c9, hn9, h1, h2, -, -, h6, -⟩ := Cond.codeWith_spec h
  cases Option.some.inj (hn9.symm.trans B.named)
  cases Option.some.inj (h1.symm.trans B.method)
  cases Option.some.inj (h2.symm.trans (Stand.of_body B).code)
  rw [← h6, table_eq]
end Bodies
end VXA
/-! ===== END ===== -/
/-! ===== BEGIN a static call of a method with an exception table ===== -/
section VXS
variable {p : Program} {l : Launch} {e : Env} {R : Room} {s : State} {m : MethodId} {args : Array Value} {below : List Frame} {meth : Method} {c : Code} {T : State} {H : Heap} {locs : List Loc} {cells slots : Nat}
abbrev vx_CSW (R : Room) (s : State) (args : Array Value) (own : String) (index : Nat) (y : MethodName) (bytes : ByteArray) (maxL : Nat) (ret : Option FieldType) (hh : List (Nat × Nat × Nat × Nat)) (ws : List Cond) (rm : Room) (mc ms n : Nat) : Prop :=
  (rm.cells = mc ∧ rm.slots = ms ∧ rm.frames + 1 ≤ R.frames ∧ 8 + (maxL + 11) + rm.locals ≤ R.locals ∧ (∀ w ∈ ws, ∀ (a' : Array Value) (U : State), s.WarmedH U.vm → w.before a' U = true) ∧ Cond.codeWith y bytes maxL ret hh ∈ ws) ∧
  (Cond.codeWith y bytes maxL ret hh).before args s = true ∧ (Cond.initialized y.cls).before args s = true ∧ (y.cls ≠ "java/lang/invoke/MethodHandle" ∧ y.cls ≠ "java/lang/invoke/VarHandle") ∧
  (∀ sig, parseMethodDescriptor y.desc = some sig → n = sig.parameters.length) ∧ (Cond.methodLink own index y).before args s = true ∧ (Cond.static y).before args s = true
theorem vx_cwSW {own : String} {index maxL mc ms : Nat} {y : MethodName} {bytes : ByteArray} {ret : Option FieldType} {hh : List (Nat × Nat × Nat × Nat)} {Ts ws ws' : List Cond} {rm : Room} (n : Nat) (ht : ∀ w ∈ Ts, w.before args s = true) (hT : GoodIn Ts (va_wsS own index y ws)) (hw : ws = Cond.codeWith y bytes maxL ret hh :: ws') (hrc : rm.cells = mc) (hrs : rm.slots = ms)
    (hd : y.cls ≠ "java/lang/invoke/MethodHandle" ∧ y.cls ≠ "java/lang/invoke/VarHandle" ∧ (parseMethodDescriptor y.desc).map (fun d => d.parameters.length) = some n) (hR : rm.frames + 1 ≤ R.frames ∧ 8 + (maxL + 11) + rm.locals ≤ R.locals) :
    vx_CSW R s args own index y bytes maxL ret hh ws rm mc ms n := by
  have ok : ∀ w ∈ va_wsS own index y ws, w.before args s = true := fun w h => ht w (hT w h).1
  have hG : GoodIn Ts ws := fun w h => hT w (by unfold va_wsS; exact List.mem_append_right _ h)
  have hc : Cond.codeWith y bytes maxL ret hh ∈ ws := by rw [hw]; exact List.mem_cons_self
  refine ⟨⟨hrc, hrs, hR.1, hR.2, pay_in ht hG, hc⟩, ht _ (hG _ hc).1, ok _ (by simp [va_wsS]), ⟨hd.1, hd.2.1⟩, fun sig h => ?_, ok _ (by simp [va_wsS]), ok _ (by simp [va_wsS])⟩
  have h2 := hd.2.2
  rw [h] at h2
  exact (Option.some.inj h2).symm
theorem vx_callSW (X : Stand p l e R s m args below meth c T locs cells slots) (hexec : p.tables.exec = Jvm.exec) {own : String} {index : Nat} {y : MethodName} {bytes : ByteArray} {maxL : Nat} {ret : Option FieldType} {hh : List (Nat × Nat × Nat × Nat)}
    (hown : s.vm.findClass own = some m.cls) (hlink : (Cond.methodLink own index y).before args s = true) (hstat : (Cond.static y).before args s = true) (hinit : (Cond.initialized y.cls).before args s = true)
    (hcode : (Cond.codeWith y bytes maxL ret hh).before args s = true) (hy : y.cls ≠ "java/lang/invoke/MethodHandle" ∧ y.cls ≠ "java/lang/invoke/VarHandle")
    {W9 : Nat} {Pre : Pt → Array Value → Prop} {Post : Pt → Array Value → Option Value → Pt → Prop} (hK : Back l R p e below s args y 3 W9 Pre Post)
    {g : JFrame} (hg : g.method = m) (hsize : g.locals.size = c.maxLocals) {argsL rest : List Value} (hlen : ∀ sig, parseMethodDescriptor y.desc = some sig → argsL.length = sig.parameters.length)
    (hstack : g.stack = argsL.reverse ++ rest) (hW : 2 * g.monitorRoom + (rest.map fun v => v.category).sum ≤ W9) (hdg : decode c.code g.pc = .ok (.invokestatic index, 3))
    (hpre : ∀ vm₁, s.WarmedH vm₁ → Pre ⟨T.setVm vm₁, locs, cells, slots⟩ argsL.toArray) :
    ∃ (v : Option Value) (vm₁ : Vm) (B : Pt), s.WarmedH vm₁ ∧ Stand p l e R s m args below meth c B.U B.locs B.cells B.slots ∧ Post ⟨T.setVm vm₁, locs, cells, slots⟩ argsL.toArray v B ∧
      ∀ target, Steps p.tables e below (B.U.setTop { g with pc := g.pc + 3, stack := v.toList ++ rest }) target → Steps p.tables e below (T.setTop g) target := by
  obtain ⟨mk, methM, cM, hnamed, hmethM, -, -, -, -, -, -, hsigM⟩ := Cond.codeWith_spec hcode
  have hstatic : methM.isStatic = true := Cond.static_spec hnamed hmethM hstat
  obtain ⟨kP, hkP, -⟩ := className_of_methodNamed hnamed
  have hinitP : kP.init = .initialized := Cond.initialized_spec (findClass_of_methodNamed hnamed) hkP hinit
  obtain ⟨vm₁, X₁, hstep₁⟩ := X.invokestatic hexec hown hlink hnamed hmethM hstatic hkP hinitP hy (g := g) hg (argsL := argsL) (rest := rest) (hlen _ hsigM) hstack hdg
  obtain ⟨v, B, X', hpost, hsteps⟩ := hK m meth c ⟨T.setVm vm₁, locs, cells, slots⟩ { g with stack := rest } (.invokestatic index) mk argsL.toArray X₁ hg hsize hdg hW (X₁.named hnamed) (hpre vm₁ X₁.warmed)
  exact ⟨v, vm₁, B, X₁.warmed, X', hpost, fun target h => hstep₁ _ fun acts => by rw [doInvoke_state]; exact hsteps.trans h⟩
theorem vx_runSW {y : MethodName} {bytes cc : ByteArray} {maxL nL mc ms n index : Nat} {ret : Option FieldType} {hh : List (Nat × Nat × Nat × Nat)} {ws : List Cond} {rm : Room} {Pc : Array Value → State → Prop} {Qc : Array Value → State → Outcome → State → Prop} {free : Addr → Prop} {Ts : List Cond} {own : String} {As rest : List Value} {g : JFrame}
    (S : CallFix p m c cc nL s args Ts own) (hM : Met l y ws rm Pc Qc mc ms free) (cw : vx_CSW R s args own index y bytes maxL ret hh ws rm mc ms n) (hp : PreS s H Pc As)
    (hg : g.method = m) (hn : As.length = n) (hsize : g.locals.size = nL) (hstack : g.stack = As.reverse ++ rest) (hW : 2 * g.monitorRoom + (rest.map fun v => v.category).sum ≤ 8) (hdg : decode cc g.pc = .ok (.invokestatic index, 3)) (hf : cells + mc ≤ R.cells ∧ slots + ms ≤ R.slots) :
    va_Run p l e R s m args below meth c H locs cells slots mc ms g rest (Qc As.toArray) (free) := by
  obtain ⟨⟨hrc, hrs, hfr, hlo, hws, hcw⟩, hcode, hini, hy, hlen, hl, hstt⟩ := cw
  have hK : Back l R p e below s args y 3 8 (PreOf R mc ms Pc) (PostOf Qc mc ms free) := va_backW (hh := hh) (bytes := bytes) (maxL := maxL) (ret := ret) hM hp.1 hrc hrs hfr hlo hws hcw (fun a' U hW => word_at hW (Or.inl (by first | rfl | simp [Cond.onTables, Cond.keeps, Cond.steady])) hini)
  obtain ⟨hx, hb, hml, ho, -⟩ := S
  intro T hT X
  obtain ⟨v, vm₁, ⟨U', l2, c2, s2⟩, hW₁, X', ⟨g', mk, t, L, e1, e2, hq, h1, hL, h2, h3⟩, st⟩ := vx_callSW X hx (hh := hh) (bytes := bytes) (maxL := maxL) (ret := ret) ho hl hstt hini hcode hy hK hg (hsize.trans hml.symm) (argsL := As) (rest := rest) (fun sig h => hn.trans (hlen sig h)) hstack hW (by rw [hb]; exact hdg)
    (fun vm₁ hW₁ => ⟨hf.1, hf.2, hp.2 (T.setVm vm₁) hT hW₁⟩)
  dsimp only [Pt.U, Pt.locs, Pt.cells, Pt.slots] at X' e1 e2 h1 h2 h3 st
  subst h1; subst h2; subst h3
  exact ⟨v, (T.setVm vm₁).calling g' mk As.toArray, t, U', L, hT, X', hL, e1, e2, hq, st⟩
/-- not caught here, past rows that name other classes: it goes on to the caller -/
theorem vx_outP {p : Program} {l : Launch} {e : Env} {R : Room} {s : State} {m : MethodId} {args : Array Value} {below : List Frame} {meth : Method} {c : Code} {H : Heap} {locs : List Loc} {cells slots : Nat} {free : Addr → Prop} {ls : Array Slot} {rest : List Value} {Qc : Array Value → State → Outcome → State → Prop} {XC : String → State → State → Prop}
    {pc : Nat} {own E : String} {ce : Cell} {q : Addr} {mc ms : Nat} (hown : s.vm.findClass own = some m.cls) (hlocks : meth.locks = false)
    (hpass : ∀ z ∈ c.exceptionTable.toList, covers z pc = false ∨ (z.catchType ≠ 0 ∧ ∃ nm : String, (Cond.classLink own z.catchType nm).before args s = true ∧ va_Nc E nm s)) (hcell : H[q]? = some ce) (hv : ce.vm = .none) (hcl : s.vm.findClass E = some ce.cls)
    (hx : ∀ t : State, t.heap = H → s.vm.Alike t.vm → XC E s t) (hf : ∀ z ∈ locs, free z.base) (hc : cells ≤ mc) (hs : slots ≤ ms) :
    vx_W p l e R s m args below meth c H locs cells slots (vx_MQ below Qc XC args s mc ms free) (F0 m pc ls rest) q := by
  intro T hT X
  have hpl : e.platform.magicAccessors = ({} : Platform).magicAccessors := by rw [X.admits.platform]
  obtain ⟨vm', hW', X', st⟩ := X.outThrough hlocks q (g := F0 m pc ls rest) rfl rfl rfl (cell := ce) (by rw [hT]; exact hcell) (by rw [hv]; rfl)
    (by obtain ⟨k9, h9, -⟩ := Vm.findClass_spec hcl; exact ⟨k9, h9⟩) (fun z hz => by
      rcases hpass z hz with h | ⟨hz0, nm, hl1, hn1⟩
      · exact Or.inl h
      · obtain ⟨c6, hc6, hcl6⟩ := Cond.classLink_spec hown hl1 e.platform hpl
        obtain ⟨a8, b8, h1, h2, h3⟩ := hn1
        cases Option.some.inj (h1.symm.trans hcl)
        cases Option.some.inj (h2.symm.trans hc6)
        exact Or.inr ⟨hz0, _, hcl6, h3⟩)
  obtain ⟨g₀, hfr⟩ := X'.frames_eq
  have hcell9 : ((T.setVm vm').setFrames (.throwing q :: below)).heap[q]? = some ce := by
    show T.heap[q]? = some ce
    rw [hT]; exact hcell
  have hend : Ended ((T.setVm vm').setFrames (.throwing q :: below)) below (.threw q) := State.frames_setFrames _ (State.cur_lt_of_frames hfr)
  refine ⟨(T.setVm vm').setFrames (.throwing q :: below), ?_, .threw q, X'.here.running, hend, Or.inr ⟨q, rfl, E, ce, locs, hx _ hT (X'.ends _).1.alike, hcell9, hv, hcl, (X'.ends _).1, (X'.ends _).2.mono hc hs, hf⟩⟩
  rw [X.pushThrowing_eq]
  exact st
end VXS
/-! ===== END ===== -/
/-! ===== BEGIN methods with a table of their own: called by a name, returning or throwing ===== -/
section VXH
/-! vx_backW, vx_callVX, vx_callSX, vx_callVW, vx_runVW, vx_runVX, vx_runSX, vx_ofWH follow the same proofs as their sisters above (Free/Laws.lean, Shelf42/LK1.lean); vx_outP calls Shelf42/NT130.lean (outThrough). -/
section
variable {l : Launch} {R : Room} {p : Program} {e : Env} {below : List Frame} {s : State} {sargs : Array Value} {y : MethodName} {len W9 : Nat}
theorem vx_backW {ws : List Cond} {rm : Room} {Pc : Array Value → State → Prop} {Qc : Array Value → State → Outcome → State → Prop} {XC : String → State → State → Prop} {mc ms : Nat} {free : Addr → Prop} {bytes : ByteArray} {maxL : Nat} {ret : Option FieldType} {hh : List (Nat × Nat × Nat × Nat)}
    (hM : vx_Met l y ws rm Pc Qc XC mc ms free) (hblind : FrameBlind Pc) (hrc : rm.cells = mc) (hrs : rm.slots = ms)
    (hframes : rm.frames + 1 ≤ R.frames) (hlocals : W9 + (maxL + 11) + rm.locals ≤ R.locals)
    (hws : ∀ w ∈ ws, ∀ a' U, s.WarmedH U.vm → w.before a' U = true) (hcode : Cond.codeWith y bytes maxL ret hh ∈ ws) (hinit : ∀ a' U, s.WarmedH U.vm → (Cond.initialized y.cls).before a' U = true) :
    vx_Back l R p e below s sargs y len W9 (PreOf R mc ms Pc) (PostOf Qc mc ms free) (vx_Post XC mc ms free) := by
  intro m meth c A g ig mk a X hg hsize hdg hW hn hp
  have h1 : (headSpec ws rm).pre.before a A.U = true := atoms_intro fun w hw => hws w hw _ _ X.warmed
  have h2 : (Cond.codeWith y bytes maxL ret hh).before a A.U = true := hws _ hcode _ _ X.warmed
  have h3 : (Cond.initialized y.cls).before a A.U = true := hinit _ _ X.warmed
  have h4 : A.cells + (headSpec ws rm).room.cells ≤ R.cells := by rw [show (headSpec ws rm).room.cells = mc from hrc]; exact hp.1
  have h5 : A.slots + (headSpec ws rm).room.slots ≤ R.slots := by rw [show (headSpec ws rm).room.slots = ms from hrs]; exact hp.2.1
  have hPc : Pc a (A.U.calling g mk a) := hblind _ _ _ _ hp.2.2
  obtain ⟨U, Ls, c0, s0⟩ := A
  dsimp only [Pt.U, Pt.locs, Pt.cells, Pt.slots] at h1 h2 h3 h4 h5 X hn hPc ⊢
  obtain ⟨m9, methY, cY, hn9, hmY, hcY, -, hlY, -⟩ := Cond.codeWith_spec h2
  cases Option.some.inj (hn9.symm.trans hn)
  obtain ⟨kY, hkY, -⟩ := className_of_methodNamed hn
  have hinitY : kY.init = .initialized := Cond.initialized_spec (findClass_of_methodNamed hn) hkY h3
  have h : At U g.method c below := by rw [hg]; exact X.here
  have hlocals9 : W9 + (maxL + 11) + (headSpec ws rm).room.locals ≤ R.locals := hlocals
  have happ : (headSpec ws rm).appliesLoose y e.platform (U.calling g mk a) = true :=
    Spec.appliesLoose_calling (g := g) h hdg hn hkY hinitY
      (X.room_calling (g := g) (R' := (headSpec ws rm).room) hsize hmY hcY hframes (by rw [hlY]; omega) h4 h5) h1
  obtain ⟨mid, hmid⟩ := h.above
  have hfr : (U.setTop g).frames = (.java g :: mid) ++ below := by rw [State.frames_setTop' g h.top, hmid]; rfl
  obtain ⟨o, s₂, hsteps, -, hend, hq⟩ := Steps.callFree hM p X.admits X.cas X.clock (acts := []) hfr happ hPc trivial
  have hq' : vx_Q Qc XC mc ms free a (U.calling g mk a) o s₂ := hq
  rw [State.frames_setTop' g h.top] at hend
  obtain ⟨g₀, hg0⟩ := Option.isSome_iff_exists.mp h.top
  obtain ⟨r, hr⟩ := State.topJava?_eq_some.mp hg0
  have hr' : (({ U with heap := s₂.heap, slotsUsed := s₂.slotsUsed } : State).setVm s₂.vm).frames = .java g₀ :: r := hr
  rcases hq' with ⟨hqc, L, hfe, hL⟩ | ⟨q, rfl, E, ce, L, hx, hce, hcv, hcl, hW₂, hsm, hL⟩
  · obtain ⟨⟨v, rfl⟩, hW₂, e2, q2, q3, q4, q5, q6⟩ := id hfe
    have e3 : s₂ = ({ (U.calling g mk a).setFrames s₂.frames with heap := s₂.heap, slotsUsed := s₂.slotsUsed } : State).setVm s₂.vm := by
      have : s₂ = ({ s₂ with vm := (U.calling g mk a).vm } : State).setVm s₂.vm := rfl
      rw [e2] at this
      exact this
    obtain ⟨c₂, i₂, len₂, hc₂, hd₂, hf₂⟩ := hend
    have hW' : U.WarmedH s₂.vm := hW₂
    have hcc : c₂ = c := by
      have h1 : s₂.code? g.method = U.code? g.method := by
        rw [State.code?_eq, State.code?_eq, hW'.alike.method?]
      exact Option.some.inj (hc₂.symm.trans (h1.trans h.code))
    subst hcc
    have hlen : len₂ = len := by rw [hdg] at hd₂; cases hd₂; rfl
    subst hlen
    have hs₂ : s₂ = (({ U with heap := s₂.heap, slotsUsed := s₂.slotsUsed } : State).setVm s₂.vm).setTop { g with pc := g.pc + len₂, stack := v.toList ++ g.stack } := by
      refine e3.trans ?_
      rw [hf₂, State.calling_eq h.top, State.setFrames_setFrames, State.setTop_of_frames _ hr', hr]
      rfl
    have hsame : U.sameButNew ({ U with heap := s₂.heap, slotsUsed := s₂.slotsUsed } : State) L mc ms := by
      refine ⟨?_, q2, q3, q4, q5, q6⟩
      obtain ⟨t, ht, -⟩ := State.frames_cons hr
      show ({ U with heap := s₂.heap, slotsUsed := s₂.slotsUsed } : State) = { U.setFrames U.frames with heap := s₂.heap, slotsUsed := s₂.slotsUsed }
      rw [State.setFrames_self ht]
    subst hg
    refine Or.inl ⟨v, ⟨(({ U with heap := s₂.heap, slotsUsed := s₂.slotsUsed } : State).setVm s₂.vm), Ls ++ L, c0 + mc, s0 + ms⟩,
      ⟨X.admits, X.cas, X.clock, X.frames, X.room, X.hears, X.method, X.code, (X.here.setHeapUsed s₂.heap s₂.slotsUsed).setVm hW'.alike, X.tail, State.WarmedH.trans X.warmed hW', X.limits, X.bytes, X.same.trans (hsame.setVm s.vm)⟩,
      ⟨g, mk, s₂, L, rfl, rfl, hqc, rfl, hL, rfl, rfl⟩, ?_⟩
    show Steps p.tables e below _ ((({ U with heap := s₂.heap, slotsUsed := s₂.slotsUsed } : State).setVm s₂.vm).setTop { g with pc := g.pc + len₂, stack := v.toList ++ g.stack })
    rw [← hs₂]
    exact hsteps
  · obtain ⟨e2, q2, q3, q4, q5, q6⟩ := id hsm
    have e3 : s₂ = ({ (U.calling g mk a).setFrames s₂.frames with heap := s₂.heap, slotsUsed := s₂.slotsUsed } : State).setVm s₂.vm := by
      have : s₂ = ({ s₂ with vm := (U.calling g mk a).vm } : State).setVm s₂.vm := rfl
      rw [e2] at this
      exact this
    have hf₂ : s₂.frames = .throwing q :: .java g :: U.frames.tail := hend
    have hW' : U.WarmedH s₂.vm := hW₂
    have hs₂ : s₂ = ((({ U with heap := s₂.heap, slotsUsed := s₂.slotsUsed } : State).setVm s₂.vm).setTop g).pushFrame (.throwing q) := by
      refine e3.trans ?_
      rw [hf₂, State.calling_eq h.top, State.setFrames_setFrames, State.pushFrame, State.frames_setTop _ hr', State.setTop_of_frames _ hr', State.setFrames_setFrames, hr]
      rfl
    have hsame : U.sameButNew ({ U with heap := s₂.heap, slotsUsed := s₂.slotsUsed } : State) L mc ms := by
      refine ⟨?_, q2, q3, q4, q5, q6⟩
      obtain ⟨t, ht, -⟩ := State.frames_cons hr
      show ({ U with heap := s₂.heap, slotsUsed := s₂.slotsUsed } : State) = { U.setFrames U.frames with heap := s₂.heap, slotsUsed := s₂.slotsUsed }
      rw [State.setFrames_self ht]
    subst hg
    refine Or.inr ⟨q, ⟨(({ U with heap := s₂.heap, slotsUsed := s₂.slotsUsed } : State).setVm s₂.vm), Ls ++ L, c0 + mc, s0 + ms⟩,
      ⟨X.admits, X.cas, X.clock, X.frames, X.room, X.hears, X.method, X.code, (X.here.setHeapUsed s₂.heap s₂.slotsUsed).setVm hW'.alike, X.tail, State.WarmedH.trans X.warmed hW', X.limits, X.bytes, X.same.trans (hsame.setVm s.vm)⟩,
      ⟨g, mk, s₂, L, E, ce, rfl, rfl, hx, hce, hcv, hcl, rfl, hL, rfl, rfl⟩, ?_⟩
    show Steps p.tables e below _ (((({ U with heap := s₂.heap, slotsUsed := s₂.slotsUsed } : State).setVm s₂.vm).setTop g).pushFrame (.throwing q))
    rw [← hs₂]
    exact hsteps
end
variable {p : Program} {l : Launch} {e : Env} {R : Room} {s : State} {m : MethodId} {args : Array Value} {below : List Frame} {meth : Method} {c : Code} {T : State} {H : Heap} {locs : List Loc} {cells slots : Nat}
theorem vx_callVX (X : Stand p l e R s m args below meth c T locs cells slots) (hexec : p.tables.exec = Jvm.exec) {own C : String} {index : Nat} {y : MethodName} {bytes : ByteArray} {maxL : Nat} {ret : Option FieldType} {hh : List (Nat × Nat × Nat × Nat)}
    (hown : s.vm.findClass own = some m.cls) (hlink : (Cond.methodLink own index y).before args s = true) (hinst : (Cond.instanceMethod y).before args s = true) (hsel : (Cond.selects C y y).before args s = true)
    (hcode : (Cond.codeWith y bytes maxL ret hh).before args s = true) (hy : y.cls ≠ "java/lang/invoke/MethodHandle" ∧ y.cls ≠ "java/lang/invoke/VarHandle")
    {W9 : Nat} {Pre : Pt → Array Value → Prop} {Post : Pt → Array Value → Option Value → Pt → Prop} {PostX : Pt → Array Value → Addr → Pt → Prop} (hK : vx_Back l R p e below s args y 3 W9 Pre Post PostX)
    {b : Addr} {cellB : Cell} (hcell : T.heap[b]? = some cellB) (hobj : cellB.vm.isStatics = false) (hcls : s.vm.findClass C = some cellB.cls)
    {g : JFrame} (hg : g.method = m) (hsize : g.locals.size = c.maxLocals) {argsL rest : List Value} (hlen : ∀ sig, parseMethodDescriptor y.desc = some sig → argsL.length = sig.parameters.length)
    (hstack : g.stack = argsL.reverse ++ .ref b :: rest) (hW : 2 * g.monitorRoom + (rest.map fun v => v.category).sum ≤ W9) (hdg : decode c.code g.pc = .ok (.invokevirtual index, 3))
    (hpre : ∀ vm₁, s.WarmedH vm₁ → Pre ⟨T.setVm vm₁, locs, cells, slots⟩ (Value.ref b :: argsL).toArray) :
    (∃ (v : Option Value) (vm₁ : Vm) (B : Pt), s.WarmedH vm₁ ∧ Stand p l e R s m args below meth c B.U B.locs B.cells B.slots ∧ Post ⟨T.setVm vm₁, locs, cells, slots⟩ (Value.ref b :: argsL).toArray v B ∧
      ∀ target, Steps p.tables e below (B.U.setTop { g with pc := g.pc + 3, stack := v.toList ++ rest }) target → Steps p.tables e below (T.setTop g) target) ∨
    (∃ (q : Addr) (vm₁ : Vm) (B : Pt), s.WarmedH vm₁ ∧ Stand p l e R s m args below meth c B.U B.locs B.cells B.slots ∧ PostX ⟨T.setVm vm₁, locs, cells, slots⟩ (Value.ref b :: argsL).toArray q B ∧
      Steps p.tables e below (T.setTop g) ((B.U.setTop { g with stack := rest }).pushFrame (.throwing q))) := by
  obtain ⟨mk, methM, hnamed, hmethM, hstM, habM⟩ := Cond.instanceMethod_spec hinst
  obtain ⟨m8, methM', cM, hn8, hmethM', -, -, -, -, -, -, hsigM⟩ := Cond.codeWith_spec hcode
  cases Option.some.inj (hn8.symm.trans hnamed)
  cases hmethM.symm.trans hmethM'
  obtain ⟨c2, r2, m2, q1, q2, q3, q4, kP, hkP, hkPi⟩ := Cond.selects_spec hsel
  cases hcls.symm.trans q1
  cases (State.methodFound?_of_named hnamed hy).symm.trans q2
  cases hnamed.symm.trans q3
  have hselP : selectMethod e.platform s.vm cellB.cls mk = .method mk := by rw [Launch.admits_selectMethod X.admits]; exact q4
  obtain ⟨vm₁, X₁, hstep₁⟩ := X.invokevirtual hexec hown hlink hnamed hmethM hstM hkP hkPi hy (a := b) (cell := cellB) hcell
    (fun z h => by rw [h] at hobj; cases hobj) hselP hmethM habM hkP hkPi (g := g) hg (argsL := argsL) (rest := rest) (hlen _ hsigM) hstack hdg
  rcases hK m meth c ⟨T.setVm vm₁, locs, cells, slots⟩ { g with stack := rest } (.invokevirtual index) mk (Value.ref b :: argsL).toArray X₁ hg hsize hdg hW (X₁.named hnamed) (hpre vm₁ X₁.warmed) with ⟨v, B, X', hpost, hsteps⟩ | ⟨q, B, X', hpost, hsteps⟩
  · exact Or.inl ⟨v, vm₁, B, X₁.warmed, X', hpost, fun target h => hstep₁ _ fun acts => by rw [doInvoke_state]; exact hsteps.trans h⟩
  · exact Or.inr ⟨q, vm₁, B, X₁.warmed, X', hpost, hstep₁ _ fun acts => by rw [doInvoke_state]; exact hsteps⟩
theorem vx_callSX (X : Stand p l e R s m args below meth c T locs cells slots) (hexec : p.tables.exec = Jvm.exec) {own : String} {index : Nat} {y : MethodName} {bytes : ByteArray} {maxL : Nat} {ret : Option FieldType} {hh : List (Nat × Nat × Nat × Nat)}
    (hown : s.vm.findClass own = some m.cls) (hlink : (Cond.methodLink own index y).before args s = true) (hstat : (Cond.static y).before args s = true) (hinit : (Cond.initialized y.cls).before args s = true)
    (hcode : (Cond.codeWith y bytes maxL ret hh).before args s = true) (hy : y.cls ≠ "java/lang/invoke/MethodHandle" ∧ y.cls ≠ "java/lang/invoke/VarHandle")
    {W9 : Nat} {Pre : Pt → Array Value → Prop} {Post : Pt → Array Value → Option Value → Pt → Prop} {PostX : Pt → Array Value → Addr → Pt → Prop} (hK : vx_Back l R p e below s args y 3 W9 Pre Post PostX)
    {g : JFrame} (hg : g.method = m) (hsize : g.locals.size = c.maxLocals) {argsL rest : List Value} (hlen : ∀ sig, parseMethodDescriptor y.desc = some sig → argsL.length = sig.parameters.length)
    (hstack : g.stack = argsL.reverse ++ rest) (hW : 2 * g.monitorRoom + (rest.map fun v => v.category).sum ≤ W9) (hdg : decode c.code g.pc = .ok (.invokestatic index, 3))
    (hpre : ∀ vm₁, s.WarmedH vm₁ → Pre ⟨T.setVm vm₁, locs, cells, slots⟩ argsL.toArray) :
    (∃ (v : Option Value) (vm₁ : Vm) (B : Pt), s.WarmedH vm₁ ∧ Stand p l e R s m args below meth c B.U B.locs B.cells B.slots ∧ Post ⟨T.setVm vm₁, locs, cells, slots⟩ argsL.toArray v B ∧
      ∀ target, Steps p.tables e below (B.U.setTop { g with pc := g.pc + 3, stack := v.toList ++ rest }) target → Steps p.tables e below (T.setTop g) target) ∨
    (∃ (q : Addr) (vm₁ : Vm) (B : Pt), s.WarmedH vm₁ ∧ Stand p l e R s m args below meth c B.U B.locs B.cells B.slots ∧ PostX ⟨T.setVm vm₁, locs, cells, slots⟩ argsL.toArray q B ∧
      Steps p.tables e below (T.setTop g) ((B.U.setTop { g with stack := rest }).pushFrame (.throwing q))) := by
  obtain ⟨mk, methM, cM, hnamed, hmethM, -, -, -, -, -, -, hsigM⟩ := Cond.codeWith_spec hcode
  have hstatic : methM.isStatic = true := Cond.static_spec hnamed hmethM hstat
  obtain ⟨kP, hkP, -⟩ := className_of_methodNamed hnamed
  have hinitP : kP.init = .initialized := Cond.initialized_spec (findClass_of_methodNamed hnamed) hkP hinit
  obtain ⟨vm₁, X₁, hstep₁⟩ := X.invokestatic hexec hown hlink hnamed hmethM hstatic hkP hinitP hy (g := g) hg (argsL := argsL) (rest := rest) (hlen _ hsigM) hstack hdg
  rcases hK m meth c ⟨T.setVm vm₁, locs, cells, slots⟩ { g with stack := rest } (.invokestatic index) mk argsL.toArray X₁ hg hsize hdg hW (X₁.named hnamed) (hpre vm₁ X₁.warmed) with ⟨v, B, X', hpost, hsteps⟩ | ⟨q, B, X', hpost, hsteps⟩
  · exact Or.inl ⟨v, vm₁, B, X₁.warmed, X', hpost, fun target h => hstep₁ _ fun acts => by rw [doInvoke_state]; exact hsteps.trans h⟩
  · exact Or.inr ⟨q, vm₁, B, X₁.warmed, X', hpost, hstep₁ _ fun acts => by rw [doInvoke_state]; exact hsteps⟩
theorem vx_callVW (X : Stand p l e R s m args below meth c T locs cells slots) (hexec : p.tables.exec = Jvm.exec) {own C : String} {index : Nat} {y : MethodName} {bytes : ByteArray} {maxL : Nat} {ret : Option FieldType} {hh : List (Nat × Nat × Nat × Nat)}
    (hown : s.vm.findClass own = some m.cls) (hlink : (Cond.methodLink own index y).before args s = true) (hinst : (Cond.instanceMethod y).before args s = true) (hsel : (Cond.selects C y y).before args s = true)
    (hcode : (Cond.codeWith y bytes maxL ret hh).before args s = true) (hy : y.cls ≠ "java/lang/invoke/MethodHandle" ∧ y.cls ≠ "java/lang/invoke/VarHandle")
    {W9 : Nat} {Pre : Pt → Array Value → Prop} {Post : Pt → Array Value → Option Value → Pt → Prop} (hK : Back l R p e below s args y 3 W9 Pre Post)
    {b : Addr} {cellB : Cell} (hcell : T.heap[b]? = some cellB) (hobj : cellB.vm.isStatics = false) (hcls : s.vm.findClass C = some cellB.cls)
    {g : JFrame} (hg : g.method = m) (hsize : g.locals.size = c.maxLocals) {argsL rest : List Value} (hlen : ∀ sig, parseMethodDescriptor y.desc = some sig → argsL.length = sig.parameters.length)
    (hstack : g.stack = argsL.reverse ++ .ref b :: rest) (hW : 2 * g.monitorRoom + (rest.map fun v => v.category).sum ≤ W9) (hdg : decode c.code g.pc = .ok (.invokevirtual index, 3))
    (hpre : ∀ vm₁, s.WarmedH vm₁ → Pre ⟨T.setVm vm₁, locs, cells, slots⟩ (Value.ref b :: argsL).toArray) :
    ∃ (v : Option Value) (vm₁ : Vm) (B : Pt), s.WarmedH vm₁ ∧ Stand p l e R s m args below meth c B.U B.locs B.cells B.slots ∧ Post ⟨T.setVm vm₁, locs, cells, slots⟩ (Value.ref b :: argsL).toArray v B ∧
      ∀ target, Steps p.tables e below (B.U.setTop { g with pc := g.pc + 3, stack := v.toList ++ rest }) target → Steps p.tables e below (T.setTop g) target := by
  obtain ⟨mk, methM, hnamed, hmethM, hstM, habM⟩ := Cond.instanceMethod_spec hinst
  obtain ⟨m8, methM', cM, hn8, hmethM', -, -, -, -, -, -, hsigM⟩ := Cond.codeWith_spec hcode
  cases Option.some.inj (hn8.symm.trans hnamed)
  cases hmethM.symm.trans hmethM'
  obtain ⟨c2, r2, m2, q1, q2, q3, q4, kP, hkP, hkPi⟩ := Cond.selects_spec hsel
  cases hcls.symm.trans q1
  cases (State.methodFound?_of_named hnamed hy).symm.trans q2
  cases hnamed.symm.trans q3
  have hselP : selectMethod e.platform s.vm cellB.cls mk = .method mk := by rw [Launch.admits_selectMethod X.admits]; exact q4
  obtain ⟨vm₁, X₁, hstep₁⟩ := X.invokevirtual hexec hown hlink hnamed hmethM hstM hkP hkPi hy (a := b) (cell := cellB) hcell
    (fun z h => by rw [h] at hobj; cases hobj) hselP hmethM habM hkP hkPi (g := g) hg (argsL := argsL) (rest := rest) (hlen _ hsigM) hstack hdg
  obtain ⟨v, B, X', hpost, hsteps⟩ := hK m meth c ⟨T.setVm vm₁, locs, cells, slots⟩ { g with stack := rest } (.invokevirtual index) mk (Value.ref b :: argsL).toArray X₁ hg hsize hdg hW (X₁.named hnamed) (hpre vm₁ X₁.warmed)
  exact ⟨v, vm₁, B, X₁.warmed, X', hpost, fun target h => hstep₁ _ fun acts => by rw [doInvoke_state]; exact hsteps.trans h⟩
abbrev vx_CVW (R : Room) (s : State) (args : Array Value) (own C : String) (index : Nat) (y : MethodName) (bytes : ByteArray) (maxL : Nat) (ret : Option FieldType) (hh : List (Nat × Nat × Nat × Nat)) (ws : List Cond) (rm : Room) (mc ms n : Nat) : Prop :=
  (rm.cells = mc ∧ rm.slots = ms ∧ rm.frames + 1 ≤ R.frames ∧ 8 + (maxL + 11) + rm.locals ≤ R.locals ∧ (∀ w ∈ ws, ∀ (a' : Array Value) (U : State), s.WarmedH U.vm → w.before a' U = true) ∧ Cond.codeWith y bytes maxL ret hh ∈ ws) ∧
  (Cond.codeWith y bytes maxL ret hh).before args s = true ∧ (Cond.initialized y.cls).before args s = true ∧ (y.cls ≠ "java/lang/invoke/MethodHandle" ∧ y.cls ≠ "java/lang/invoke/VarHandle") ∧
  (∀ sig, parseMethodDescriptor y.desc = some sig → n = sig.parameters.length) ∧ (Cond.methodLink own index y).before args s = true ∧ (Cond.instanceMethod y).before args s = true ∧ (Cond.selects C y y).before args s = true
theorem vx_runVW {y : MethodName} {bytes cc : ByteArray} {maxL nL mc ms n index : Nat} {ret : Option FieldType} {hh : List (Nat × Nat × Nat × Nat)} {ws : List Cond} {rm : Room} {Pc : Array Value → State → Prop} {Qc : Array Value → State → Outcome → State → Prop} {free : Addr → Prop} {Ts : List Cond} {own C : String} {b : Addr} {As rest : List Value} {g : JFrame}
    (S : CallFix p m c cc nL s args Ts own) (hM : Met l y ws rm Pc Qc mc ms free) (cw : vx_CVW R s args own C index y bytes maxL ret hh ws rm mc ms n) (hp : PreV s H C b Pc As)
    (hg : g.method = m) (hn : As.length = n) (hsize : g.locals.size = nL) (hstack : g.stack = As.reverse ++ .ref b :: rest) (hW : 2 * g.monitorRoom + (rest.map fun v => v.category).sum ≤ 8) (hdg : decode cc g.pc = .ok (.invokevirtual index, 3)) (hf : cells + mc ≤ R.cells ∧ slots + ms ≤ R.slots) :
    va_Run p l e R s m args below meth c H locs cells slots mc ms g rest (Qc (Value.ref b :: As).toArray) free := by
  obtain ⟨⟨hrc, hrs, hfr, hlo, hws, hcw⟩, hcode, hini, hy, hlen, hl, hin, hse⟩ := cw
  have hK : Back l R p e below s args y 3 8 (PreOf R mc ms Pc) (PostOf Qc mc ms free) := va_backW (hh := hh) (bytes := bytes) (maxL := maxL) (ret := ret) hM hp.1 hrc hrs hfr hlo hws hcw (fun a' U hW => word_at hW (Or.inl (by first | rfl | simp [Cond.onTables, Cond.keeps, Cond.steady])) hini)
  obtain ⟨hx, hb, hml, ho, -⟩ := S
  obtain ⟨-, ⟨cellB, hcB, hoB, hclB⟩, hPc⟩ := hp
  intro T hT X
  obtain ⟨v, vm₁, ⟨U', l2, c2, s2⟩, hW₁, X', ⟨g', mk, t, L, e1, e2, hq, h1, hL, h2, h3⟩, st⟩ := vx_callVW X hx (C := C) (hh := hh) (bytes := bytes) (maxL := maxL) (ret := ret) ho hl hin hse hcode hy hK (by rw [hT]; exact hcB) hoB hclB hg (hsize.trans hml.symm) (argsL := As) (rest := rest) (fun sig h => hn.trans (hlen sig h)) hstack hW (by rw [hb]; exact hdg)
    (fun vm₁ hW₁ => ⟨hf.1, hf.2, hPc (T.setVm vm₁) hT hW₁⟩)
  dsimp only [Pt.U, Pt.locs, Pt.cells, Pt.slots] at X' e1 e2 h1 h2 h3 st
  subst h1; subst h2; subst h3
  exact ⟨v, (T.setVm vm₁).calling g' mk (Value.ref b :: As).toArray, t, U', L, hT, X', hL, e1, e2, hq, st⟩
section
variable {y : MethodName} {bytes cc : ByteArray} {maxL nL mc ms n index : Nat} {ret : Option FieldType} {ws : List Cond} {rm : Room} {Pc : Array Value → State → Prop} {Qc : Array Value → State → Outcome → State → Prop} {XC : String → State → State → Prop} {free : Addr → Prop} {Ts : List Cond} {own C : String} {b : Addr} {As rest : List Value} {g : JFrame}
theorem vx_runVX {hh : List (Nat × Nat × Nat × Nat)} (S : CallFix p m c cc nL s args Ts own) (hM : vx_Met l y ws rm Pc Qc XC mc ms free) (cw : vx_CVW R s args own C index y bytes maxL ret hh ws rm mc ms n) (hp : PreV s H C b Pc As)
    (hg : g.method = m) (hn : As.length = n) (hsize : g.locals.size = nL) (hstack : g.stack = As.reverse ++ .ref b :: rest) (hW : 2 * g.monitorRoom + (rest.map fun v => v.category).sum ≤ 8) (hdg : decode cc g.pc = .ok (.invokevirtual index, 3)) (hf : cells + mc ≤ R.cells ∧ slots + ms ≤ R.slots) :
    vx_Run p l e R s m args below meth c H locs cells slots mc ms g rest (Qc (Value.ref b :: As).toArray) XC free := by
  obtain ⟨⟨hrc, hrs, hfr, hlo, hws, hcw⟩, hcode, hini, hy, hlen, hl, hin, hse⟩ := cw
  have hK : vx_Back l R p e below s args y 3 8 (PreOf R mc ms Pc) (PostOf Qc mc ms free) (vx_Post XC mc ms free) := vx_backW (hh := hh) (bytes := bytes) (maxL := maxL) (ret := ret) hM hp.1 hrc hrs hfr hlo hws hcw (fun a' U hW => word_at hW (Or.inl (by first | rfl | simp [Cond.onTables, Cond.keeps, Cond.steady])) hini)
  obtain ⟨hx, hb, hml, ho, -⟩ := S
  obtain ⟨-, ⟨cellB, hcB, hoB, hclB⟩, hPc⟩ := hp
  intro T hT X
  rcases vx_callVX X hx (C := C) (hh := hh) (bytes := bytes) (maxL := maxL) (ret := ret) ho hl hin hse hcode hy hK (by rw [hT]; exact hcB) hoB hclB hg (hsize.trans hml.symm) (argsL := As) (rest := rest) (fun sig h => hn.trans (hlen sig h)) hstack hW (by rw [hb]; exact hdg)
    (fun vm₁ hW₁ => ⟨hf.1, hf.2, hPc (T.setVm vm₁) hT hW₁⟩) with ⟨v, vm₁, ⟨U', l2, c2, s2⟩, hW₁, X', ⟨g', mk, t, L, e1, e2, hq, h1, hL, h2, h3⟩, st⟩ | ⟨q, vm₁, ⟨U', l2, c2, s2⟩, hW₁, X', ⟨g', mk, t, L, E, ce, e1, e2, hq, hce, hcv, hcl, h1, hL, h2, h3⟩, st⟩
  · dsimp only [Pt.U, Pt.locs, Pt.cells, Pt.slots] at X' e1 e2 h1 h2 h3 st
    subst h1; subst h2; subst h3
    exact Or.inl ⟨v, (T.setVm vm₁).calling g' mk (Value.ref b :: As).toArray, t, U', L, hT, X', hL, e1, e2, hq, st⟩
  · dsimp only [Pt.U, Pt.locs, Pt.cells, Pt.slots] at X' e1 e2 h1 h2 h3 st hcl
    subst h1; subst h2; subst h3
    exact Or.inr ⟨q, (T.setVm vm₁).calling g' mk (Value.ref b :: As).toArray, t, U', L, E, ce, hT, X', hL, e1, e2, hq, hce, hcv, vx_cls hW₁ hcl, st⟩
theorem vx_runSX {hh : List (Nat × Nat × Nat × Nat)} (S : CallFix p m c cc nL s args Ts own) (hM : vx_Met l y ws rm Pc Qc XC mc ms free) (cw : vx_CSW R s args own index y bytes maxL ret hh ws rm mc ms n) (hp : PreS s H Pc As)
    (hg : g.method = m) (hn : As.length = n) (hsize : g.locals.size = nL) (hstack : g.stack = As.reverse ++ rest) (hW : 2 * g.monitorRoom + (rest.map fun v => v.category).sum ≤ 8) (hdg : decode cc g.pc = .ok (.invokestatic index, 3)) (hf : cells + mc ≤ R.cells ∧ slots + ms ≤ R.slots) :
    vx_Run p l e R s m args below meth c H locs cells slots mc ms g rest (Qc As.toArray) XC free := by
  obtain ⟨⟨hrc, hrs, hfr, hlo, hws, hcw⟩, hcode, hini, hy, hlen, hl, hstt⟩ := cw
  have hK : vx_Back l R p e below s args y 3 8 (PreOf R mc ms Pc) (PostOf Qc mc ms free) (vx_Post XC mc ms free) := vx_backW (hh := hh) (bytes := bytes) (maxL := maxL) (ret := ret) hM hp.1 hrc hrs hfr hlo hws hcw (fun a' U hW => word_at hW (Or.inl (by first | rfl | simp [Cond.onTables, Cond.keeps, Cond.steady])) hini)
  obtain ⟨hx, hb, hml, ho, -⟩ := S
  intro T hT X
  rcases vx_callSX X hx (hh := hh) (bytes := bytes) (maxL := maxL) (ret := ret) ho hl hstt hini hcode hy hK hg (hsize.trans hml.symm) (argsL := As) (rest := rest) (fun sig h => hn.trans (hlen sig h)) hstack hW (by rw [hb]; exact hdg)
    (fun vm₁ hW₁ => ⟨hf.1, hf.2, hp.2 (T.setVm vm₁) hT hW₁⟩) with ⟨v, vm₁, ⟨U', l2, c2, s2⟩, hW₁, X', ⟨g', mk, t, L, e1, e2, hq, h1, hL, h2, h3⟩, st⟩ | ⟨q, vm₁, ⟨U', l2, c2, s2⟩, hW₁, X', ⟨g', mk, t, L, E, ce, e1, e2, hq, hce, hcv, hcl, h1, hL, h2, h3⟩, st⟩
  · dsimp only [Pt.U, Pt.locs, Pt.cells, Pt.slots] at X' e1 e2 h1 h2 h3 st
    subst h1; subst h2; subst h3
    exact Or.inl ⟨v, (T.setVm vm₁).calling g' mk As.toArray, t, U', L, hT, X', hL, e1, e2, hq, st⟩
  · dsimp only [Pt.U, Pt.locs, Pt.cells, Pt.slots] at X' e1 e2 h1 h2 h3 st hcl
    subst h1; subst h2; subst h3
    exact Or.inr ⟨q, (T.setVm vm₁).calling g' mk As.toArray, t, U', L, E, ce, hT, X', hL, e1, e2, hq, hce, hcv, vx_cls hW₁ hcl, st⟩
end
end VXH
theorem vx_ofWH {l : Launch} {y : MethodName} {ws ws' : List Cond} {rm : Room} {Pc : Array Value → State → Prop} {Qc : Array Value → State → Outcome → State → Prop} {XC : String → State → State → Prop} {mc ms : Nat} {free : Addr → Prop} {cc : ByteArray} {maxL : Nat} {ret : Option FieldType} {hh : List (Nat × Nat × Nat × Nat)}
    (hy : plainName y.cls = true) (hw : ws = Cond.codeWith y cc maxL ret hh :: ws')
    (body : ∀ p e s m args below meth c s₁, BodyLoose p l y (headSpec ws rm) cc maxL ret e s m args below meth c s₁ → c.maxLocals = maxL → Pc args s →
      W p l e (headSpec ws rm).room s m args below meth c s.heap [] 0 0 (vx_MQ below Qc XC args s mc ms free) (entryFrame m args maxL)) : vx_Met l y ws rm Pc Qc XC mc ms free := by
  refine MetFree.of_bodyS (code := cc) (maxLocals := maxL) (ret := ret) hy ?_ ?_
  · intro args s m h hn
    obtain ⟨m9, meth, c, hn9, h1, h2, h3, h4, -, h5, h6, -⟩ := Cond.codeWith_spec (atoms_spec (ws := ws) h _ (by rw [hw]; exact List.mem_cons_self))
    cases hn.symm.trans hn9
    exact ⟨meth, c, h1, h2, h3, h4, h5, h6⟩
  · intro p e s m args below meth c s₁ B hml hP _
    have hh0 : s₁.heap = s.heap := by rw [B.state]; rfl
    obtain ⟨t, a1, o, b1, b2, b3⟩ := body p e s m args below meth c s₁ B hml hP s₁ hh0 (Stand.of_body B)
    exact ⟨t, o, a1, b1, b2, b3⟩
/-! ===== END ===== -/

/-! ===== BEGIN printed: names, fields, word lists, decode rows ===== -/
end
section
def RX0 : String := "RansomHymn$Canon"
def TX0 : u_T := fun k => match k with
  | 0 => ("RansomHymn$Canon", "hymn", "LRansomHymn$Hymn;", true)
  | 1 => ("RansomHymn$Canon", "now", "LRansomHymn$World;", true)
  | 2 => ("RansomHymn$Canon", "laws", "LRansomHymn$Laws;", true)
  | 3 => ("RansomHymn$Canon", "heardBars", "[I", true)
  | 4 => ("RansomHymn$Canon", "row", "[I", true)
  | 5 => ("RansomHymn$Canon", "bestRow", "[I", true)
  | 6 => ("RansomHymn$Canon", "many", "I", false)
  | 7 => ("RansomHymn$Canon", "behind", "I", false)
  | 8 => ("RansomHymn$Canon", "length", "I", false)
  | _ => ("RansomHymn$Canon", "fewest", "I", false)
def tyX0 : Nat → FieldType := fun k => match k with
  | 0 => .object "RansomHymn$Hymn"
  | 1 => .object "RansomHymn$World"
  | 2 => .object "RansomHymn$Laws"
  | 3 => .array .int
  | 4 => .array .int
  | 5 => .array .int
  | 6 => .int
  | 7 => .int
  | 8 => .int
  | _ => .int
theorem nmX0 : ∀ a, a < 10 → ∀ b, b < 10 → a ≠ b → (TX0 a).2.1 ≠ (TX0 b).2.1 := by decide +kernel
theorem tyX0_ok : ∀ k, k < 10 → parseFieldDescriptor (TX0 k).2.2.1 = some (tyX0 k) := by decide +kernel
abbrev cX0_init : ByteArray := prog_2_method_1_code
def yX0_init : MethodName := ⟨RX0, "<init>", "(LRansomHymn$Hymn;LRansomHymn$World;LRansomHymn$Laws;)V"⟩
abbrev cX0_fewestGaps : ByteArray := prog_2_method_2_code
def yX0_fewestGaps : MethodName := ⟨RX0, "fewestGaps", "(III)I"⟩
abbrev cX0_fill : ByteArray := prog_2_method_3_code
def yX0_fill : MethodName := ⟨RX0, "fill", "(IIJ)V"⟩
def RX1 : String := "RansomHymn$Choice"
def TX1 : u_T := fun k => match k with
  | 0 => ("RansomHymn$Choice", "hymn", "LRansomHymn$Hymn;", true)
  | 1 => ("RansomHymn$Choice", "now", "LRansomHymn$World;", true)
  | 2 => ("RansomHymn$Choice", "laws", "LRansomHymn$Laws;", true)
  | 3 => ("RansomHymn$Choice", "notes", "[I", true)
  | 4 => ("RansomHymn$Choice", "crowns", "[I", true)
  | 5 => ("RansomHymn$Choice", "verseCrowns", "[I", true)
  | 6 => ("RansomHymn$Choice", "restCrowns", "[[I", true)
  | 7 => ("RansomHymn$Choice", "singers", "[I", true)
  | 8 => ("RansomHymn$Choice", "rowNotes", "I", false)
  | 9 => ("RansomHymn$Choice", "rowCrowns", "I", false)
  | _ => ("RansomHymn$Choice", "weighed", "Z", false)
def tyX1 : Nat → FieldType := fun k => match k with
  | 0 => .object "RansomHymn$Hymn"
  | 1 => .object "RansomHymn$World"
  | 2 => .object "RansomHymn$Laws"
  | 3 => .array .int
  | 4 => .array .int
  | 5 => .array .int
  | 6 => .array (.array .int)
  | 7 => .array .int
  | 8 => .int
  | 9 => .int
  | _ => .boolean
theorem nmX1 : ∀ a, a < 11 → ∀ b, b < 11 → a ≠ b → (TX1 a).2.1 ≠ (TX1 b).2.1 := by decide +kernel
theorem tyX1_ok : ∀ k, k < 11 → parseFieldDescriptor (TX1 k).2.2.1 = some (tyX1 k) := by decide +kernel
abbrev cX1_init : ByteArray := prog_3_method_1_code
def yX1_init : MethodName := ⟨RX1, "<init>", "(LRansomHymn$Hymn;LRansomHymn$World;LRansomHymn$Laws;)V"⟩
abbrev cX1_mostNotes : ByteArray := prog_3_method_2_code
def yX1_mostNotes : MethodName := ⟨RX1, "mostNotes", "(I)I"⟩
abbrev cX1_crownsFor : ByteArray := prog_3_method_3_code
def yX1_crownsFor : MethodName := ⟨RX1, "crownsFor", "(I)I"⟩
abbrev cX1_weigh : ByteArray := prog_3_method_4_code
def yX1_weigh : MethodName := ⟨RX1, "weigh", "()V"⟩
abbrev cX1_choose : ByteArray := prog_3_method_5_code
def yX1_choose : MethodName := ⟨RX1, "choose", "(I)V"⟩
abbrev cX1_isBest : ByteArray := prog_3_method_6_code
def yX1_isBest : MethodName := ⟨RX1, "isBest", "(II)Z"⟩
abbrev cX1_weighPart : ByteArray := prog_3_method_7_code
def yX1_weighPart : MethodName := ⟨RX1, "weighPart", "(II)V"⟩
abbrev cX1_weighRows : ByteArray := prog_3_method_8_code
def yX1_weighRows : MethodName := ⟨RX1, "weighRows", "(I)V"⟩
abbrev cX1_joinRest : ByteArray := prog_3_method_9_code
def yX1_joinRest : MethodName := ⟨RX1, "joinRest", "(I)V"⟩
abbrev cX1_rowsOf : ByteArray := prog_3_method_10_code
def yX1_rowsOf : MethodName := ⟨RX1, "rowsOf", "(I)I"⟩
abbrev cX1_fits : ByteArray := prog_3_method_11_code
def yX1_fits : MethodName := ⟨RX1, "fits", "(II)Z"⟩
def RX2 : String := "RansomHymn$Formulas"
def TX2 : u_T := fun k => match k with
  | 0 => ("RansomHymn$Formulas", "kinds", "[I", true)
  | 1 => ("RansomHymn$Formulas", "values", "[I", true)
  | 2 => ("RansomHymn$Formulas", "from", "[I", true)
  | 3 => ("RansomHymn$Formulas", "to", "[I", true)
  | 4 => ("RansomHymn$Formulas", "size", "I", false)
  | 5 => ("RansomHymn$Formulas", "waiting", "[I", true)
  | 6 => ("RansomHymn$Formulas", "depth", "I", false)
  | 7 => ("RansomHymn$Formulas", "open", "I", false)
  | 8 => ("RansomHymn$Formulas", "knots", "I", false)
  | _ => ("RansomHymn$Formulas", "wantsValue", "Z", false)
def tyX2 : Nat → FieldType := fun k => match k with
  | 0 => .array .int
  | 1 => .array .int
  | 2 => .array .int
  | 3 => .array .int
  | 4 => .int
  | 5 => .array .int
  | 6 => .int
  | 7 => .int
  | 8 => .int
  | _ => .boolean
theorem nmX2 : ∀ a, a < 10 → ∀ b, b < 10 → a ≠ b → (TX2 a).2.1 ≠ (TX2 b).2.1 := by decide +kernel
theorem tyX2_ok : ∀ k, k < 10 → parseFieldDescriptor (TX2 k).2.2.1 = some (tyX2 k) := by decide +kernel
abbrev cX2_init : ByteArray := prog_4_method_1_code
def yX2_init : MethodName := ⟨RX2, "<init>", "()V"⟩
abbrev cX2_clear : ByteArray := prog_4_method_2_code
def yX2_clear : MethodName := ⟨RX2, "clear", "()V"⟩
abbrev cX2_take : ByteArray := prog_4_method_3_code
def yX2_take : MethodName := ⟨RX2, "take", "(LRansomHymn$Formulas;)V"⟩
abbrev cX2_isTold : ByteArray := prog_4_method_4_code
def yX2_isTold : MethodName := ⟨RX2, "isTold", "(I)Z"⟩
abbrev cX2_tell : ByteArray := prog_4_method_5_code
def yX2_tell : MethodName := ⟨RX2, "tell", "(ILRansomHymn$Tokens;)V"⟩
abbrev cX2_readValue : ByteArray := prog_4_method_6_code
def yX2_readValue : MethodName := ⟨RX2, "readValue", "(LRansomHymn$Tokens;)Z"⟩
abbrev cX2_readSign : ByteArray := prog_4_method_7_code
def yX2_readSign : MethodName := ⟨RX2, "readSign", "(LRansomHymn$Tokens;)Z"⟩
abbrev cX2_isRoom : ByteArray := prog_4_method_8_code
def yX2_isRoom : MethodName := ⟨RX2, "isRoom", "(LRansomHymn$Tokens;)Z"⟩
abbrev cX2_hold : ByteArray := prog_4_method_9_code
def yX2_hold : MethodName := ⟨RX2, "hold", "(I)Z"⟩
abbrev cX2_topLevel : ByteArray := prog_4_method_10_code
def yX2_topLevel : MethodName := ⟨RX2, "topLevel", "()I"⟩
abbrev cX2_settle : ByteArray := prog_4_method_11_code
def yX2_settle : MethodName := ⟨RX2, "settle", "(I)V"⟩
abbrev cX2_put : ByteArray := prog_4_method_12_code
def yX2_put : MethodName := ⟨RX2, "put", "(II)Z"⟩
abbrev cX2_levelOf : ByteArray := prog_4_method_13_code
def yX2_levelOf : MethodName := ⟨RX2, "levelOf", "(I)I"⟩
def RX3 : String := "RansomHymn$Hums"
def TX3 : u_T := fun k => match k with
  | 0 => ("RansomHymn$Hums", "hummed", "[I", true)
  | _ => ("RansomHymn$Hums", "size", "I", false)
def tyX3 : Nat → FieldType := fun k => match k with
  | 0 => .array .int
  | _ => .int
theorem nmX3 : ∀ a, a < 2 → ∀ b, b < 2 → a ≠ b → (TX3 a).2.1 ≠ (TX3 b).2.1 := by decide +kernel
theorem tyX3_ok : ∀ k, k < 2 → parseFieldDescriptor (TX3 k).2.2.1 = some (tyX3 k) := by decide +kernel
abbrev cX3_init : ByteArray := prog_5_method_1_code
def yX3_init : MethodName := ⟨RX3, "<init>", "()V"⟩
abbrev cX3_add : ByteArray := prog_5_method_2_code
def yX3_add : MethodName := ⟨RX3, "add", "(I)I"⟩
abbrev cX3_pitches : ByteArray := prog_5_method_3_code
def yX3_pitches : MethodName := ⟨RX3, "pitches", "(I)J"⟩
def RX4 : String := "RansomHymn$Hymn"
def TX4 : u_T := fun k => match k with
  | 0 => ("RansomHymn$Hymn", "taverns", "LRansomHymn$Roll;", true)
  | 1 => ("RansomHymn$Hymn", "voices", "LRansomHymn$Roll;", true)
  | 2 => ("RansomHymn$Hymn", "verses", "LRansomHymn$Roll;", true)
  | 3 => ("RansomHymn$Hymn", "bakers", "LRansomHymn$Roll;", true)
  | 4 => ("RansomHymn$Hymn", "rates", "[I", true)
  | 5 => ("RansomHymn$Hymn", "tills", "[I", true)
  | 6 => ("RansomHymn$Hymn", "lows", "[I", true)
  | 7 => ("RansomHymn$Hymn", "highs", "[I", true)
  | 8 => ("RansomHymn$Hymn", "homes", "[I", true)
  | 9 => ("RansomHymn$Hymn", "debts", "[I", true)
  | 10 => ("RansomHymn$Hymn", "chances", "[I", true)
  | 11 => ("RansomHymn$Hymn", "partsOf", "[I", true)
  | 12 => ("RansomHymn$Hymn", "barsOf", "[I", true)
  | 13 => ("RansomHymn$Hymn", "pitches", "[I", true)
  | 14 => ("RansomHymn$Hymn", "bakerPurses", "[I", true)
  | 15 => ("RansomHymn$Hymn", "formulas", "LRansomHymn$Formulas;", true)
  | 16 => ("RansomHymn$Hymn", "boys", "I", false)
  | 17 => ("RansomHymn$Hymn", "purse", "I", false)
  | _ => ("RansomHymn$Hymn", "seed", "I", false)
def tyX4 : Nat → FieldType := fun k => match k with
  | 0 => .object "RansomHymn$Roll"
  | 1 => .object "RansomHymn$Roll"
  | 2 => .object "RansomHymn$Roll"
  | 3 => .object "RansomHymn$Roll"
  | 4 => .array .int
  | 5 => .array .int
  | 6 => .array .int
  | 7 => .array .int
  | 8 => .array .int
  | 9 => .array .int
  | 10 => .array .int
  | 11 => .array .int
  | 12 => .array .int
  | 13 => .array .int
  | 14 => .array .int
  | 15 => .object "RansomHymn$Formulas"
  | 16 => .int
  | 17 => .int
  | _ => .int
theorem nmX4 : ∀ a, a < 19 → ∀ b, b < 19 → a ≠ b → (TX4 a).2.1 ≠ (TX4 b).2.1 := by decide +kernel
theorem tyX4_ok : ∀ k, k < 19 → parseFieldDescriptor (TX4 k).2.2.1 = some (tyX4 k) := by decide +kernel
abbrev cX4_init : ByteArray := prog_6_method_1_code
def yX4_init : MethodName := ⟨RX4, "<init>", "()V"⟩
abbrev cX4_clear : ByteArray := prog_6_method_2_code
def yX4_clear : MethodName := ⟨RX4, "clear", "()V"⟩
abbrev cX4_take : ByteArray := prog_6_method_3_code
def yX4_take : MethodName := ⟨RX4, "take", "(LRansomHymn$Hymn;)V"⟩
abbrev cX4_hasPart : ByteArray := prog_6_method_4_code
def yX4_hasPart : MethodName := ⟨RX4, "hasPart", "(II)Z"⟩
abbrev cX4_hasVerses : ByteArray := prog_6_method_5_code
def yX4_hasVerses : MethodName := ⟨RX4, "hasVerses", "(I)Z"⟩
abbrev cX4_isBoy : ByteArray := prog_6_method_6_code
def yX4_isBoy : MethodName := ⟨RX4, "isBoy", "(I)Z"⟩
abbrev cX4_pitchAt : ByteArray := prog_6_method_7_code
def yX4_pitchAt : MethodName := ⟨RX4, "pitchAt", "(II)I"⟩
abbrev cX4_restsIn : ByteArray := prog_6_method_8_code
def yX4_restsIn : MethodName := ⟨RX4, "restsIn", "(I)I"⟩
abbrev cX4_highestIn : ByteArray := prog_6_method_9_code
def yX4_highestIn : MethodName := ⟨RX4, "highestIn", "(I)I"⟩
abbrev cX4_reach : ByteArray := prog_6_method_10_code
def yX4_reach : MethodName := ⟨RX4, "reach", "(I)J"⟩
abbrev cX4_reachedBars : ByteArray := prog_6_method_11_code
def yX4_reachedBars : MethodName := ⟨RX4, "reachedBars", "(II)I"⟩
def RX5 : String := "RansomHymn$Laws"
def TX5 : u_T := fun k => match k with
  | 0 => ("RansomHymn$Laws", "hymn", "LRansomHymn$Hymn;", true)
  | 1 => ("RansomHymn$Laws", "now", "LRansomHymn$World;", true)
  | 2 => ("RansomHymn$Laws", "names", "[J", true)
  | 3 => ("RansomHymn$Laws", "stack", "[J", true)
  | 4 => ("RansomHymn$Laws", "top", "I", false)
  | _ => ("RansomHymn$Laws", "error", "Z", false)
def tyX5 : Nat → FieldType := fun k => match k with
  | 0 => .object "RansomHymn$Hymn"
  | 1 => .object "RansomHymn$World"
  | 2 => .array .long
  | 3 => .array .long
  | 4 => .int
  | _ => .boolean
theorem nmX5 : ∀ a, a < 6 → ∀ b, b < 6 → a ≠ b → (TX5 a).2.1 ≠ (TX5 b).2.1 := by decide +kernel
theorem tyX5_ok : ∀ k, k < 6 → parseFieldDescriptor (TX5 k).2.2.1 = some (tyX5 k) := by decide +kernel
abbrev cX5_init : ByteArray := prog_7_method_1_code
def yX5_init : MethodName := ⟨RX5, "<init>", "(LRansomHymn$Hymn;LRansomHymn$World;)V"⟩
abbrev cX5_soundBits : ByteArray := prog_7_method_2_code
def yX5_soundBits : MethodName := ⟨RX5, "soundBits", "(II)I"⟩
abbrev cX5_dueFor : ByteArray := prog_7_method_3_code
def yX5_dueFor : MethodName := ⟨RX5, "dueFor", "(III)I"⟩
abbrev cX5_crackFor : ByteArray := prog_7_method_4_code
def yX5_crackFor : MethodName := ⟨RX5, "crackFor", "(II)I"⟩
abbrev cX5_bidFor : ByteArray := prog_7_method_5_code
def yX5_bidFor : MethodName := ⟨RX5, "bidFor", "(III)I"⟩
abbrev cX5_setOwner : ByteArray := prog_7_method_6_code
def yX5_setOwner : MethodName := ⟨RX5, "setOwner", "(III)V"⟩
abbrev cX5_setMusic : ByteArray := prog_7_method_7_code
def yX5_setMusic : MethodName := ⟨RX5, "setMusic", "(IIII)V"⟩
abbrev cX5_reckon : ByteArray := prog_7_method_8_code
def yX5_reckon : MethodName := ⟨RX5, "reckon", "(III)I"⟩
abbrev cX5_apply : ByteArray := prog_7_method_9_code
def yX5_apply : MethodName := ⟨RX5, "apply", "(II)V"⟩
abbrev cX5_scale : ByteArray := prog_7_method_10_code
def yX5_scale : MethodName := ⟨RX5, "scale", "(IJJ)J"⟩
abbrev cX5_join : ByteArray := prog_7_method_11_code
def yX5_join : MethodName := ⟨RX5, "join", "(IJJ)J"⟩
abbrev cX5_push : ByteArray := prog_7_method_12_code
def yX5_push : MethodName := ⟨RX5, "push", "(J)V"⟩
abbrev cX5_pop : ByteArray := prog_7_method_13_code
def yX5_pop : MethodName := ⟨RX5, "pop", "()J"⟩
def RX6 : String := "RansomHymn$Roll"
def TX6 : u_T := fun k => match k with
  | 0 => ("RansomHymn$Roll", "names", "[I", true)
  | _ => ("RansomHymn$Roll", "size", "I", false)
def tyX6 : Nat → FieldType := fun k => match k with
  | 0 => .array .int
  | _ => .int
theorem nmX6 : ∀ a, a < 2 → ∀ b, b < 2 → a ≠ b → (TX6 a).2.1 ≠ (TX6 b).2.1 := by decide +kernel
theorem tyX6_ok : ∀ k, k < 2 → parseFieldDescriptor (TX6 k).2.2.1 = some (tyX6 k) := by decide +kernel
abbrev cX6_init : ByteArray := prog_8_method_1_code
def yX6_init : MethodName := ⟨RX6, "<init>", "(I)V"⟩
abbrev cX6_isFull : ByteArray := prog_8_method_2_code
def yX6_isFull : MethodName := ⟨RX6, "isFull", "()Z"⟩
abbrev cX6_holds : ByteArray := prog_8_method_3_code
def yX6_holds : MethodName := ⟨RX6, "holds", "(I)Z"⟩
abbrev cX6_find : ByteArray := prog_8_method_4_code
def yX6_find : MethodName := ⟨RX6, "find", "(I)I"⟩
abbrev cX6_add : ByteArray := prog_8_method_5_code
def yX6_add : MethodName := ⟨RX6, "add", "(I)I"⟩
abbrev cX6_take : ByteArray := prog_8_method_6_code
def yX6_take : MethodName := ⟨RX6, "take", "(LRansomHymn$Roll;)V"⟩
def RX7 : String := "RansomHymn$Sale"
def TX7 : u_T := fun k => match k with
  | 0 => ("RansomHymn$Sale", "hymn", "LRansomHymn$Hymn;", true)
  | 1 => ("RansomHymn$Sale", "now", "LRansomHymn$World;", true)
  | 2 => ("RansomHymn$Sale", "laws", "LRansomHymn$Laws;", true)
  | 3 => ("RansomHymn$Sale", "owners", "[I", true)
  | 4 => ("RansomHymn$Sale", "prices", "[I", true)
  | _ => ("RansomHymn$Sale", "left", "[I", true)
def tyX7 : Nat → FieldType := fun k => match k with
  | 0 => .object "RansomHymn$Hymn"
  | 1 => .object "RansomHymn$World"
  | 2 => .object "RansomHymn$Laws"
  | 3 => .array .int
  | 4 => .array .int
  | _ => .array .int
theorem nmX7 : ∀ a, a < 6 → ∀ b, b < 6 → a ≠ b → (TX7 a).2.1 ≠ (TX7 b).2.1 := by decide +kernel
theorem tyX7_ok : ∀ k, k < 6 → parseFieldDescriptor (TX7 k).2.2.1 = some (tyX7 k) := by decide +kernel
abbrev cX7_init : ByteArray := prog_9_method_1_code
def yX7_init : MethodName := ⟨RX7, "<init>", "(LRansomHymn$Hymn;LRansomHymn$World;LRansomHymn$Laws;)V"⟩
abbrev cX7_hold : ByteArray := prog_9_method_2_code
def yX7_hold : MethodName := ⟨RX7, "hold", "(I)I"⟩
abbrev cX7_sellVerse : ByteArray := prog_9_method_3_code
def yX7_sellVerse : MethodName := ⟨RX7, "sellVerse", "(I)V"⟩
def RX8 : String := "RansomHymn$Teller"
def TX8 : u_T := fun k => match k with
  | 0 => ("RansomHymn$Teller", "tokens", "LRansomHymn$Tokens;", true)
  | 1 => ("RansomHymn$Teller", "hymn", "LRansomHymn$Hymn;", true)
  | 2 => ("RansomHymn$Teller", "purseTold", "Z", false)
  | _ => ("RansomHymn$Teller", "seedTold", "Z", false)
def tyX8 : Nat → FieldType := fun k => match k with
  | 0 => .object "RansomHymn$Tokens"
  | 1 => .object "RansomHymn$Hymn"
  | 2 => .boolean
  | _ => .boolean
theorem nmX8 : ∀ a, a < 4 → ∀ b, b < 4 → a ≠ b → (TX8 a).2.1 ≠ (TX8 b).2.1 := by decide +kernel
theorem tyX8_ok : ∀ k, k < 4 → parseFieldDescriptor (TX8 k).2.2.1 = some (tyX8 k) := by decide +kernel
abbrev cX8_init : ByteArray := prog_10_method_1_code
def yX8_init : MethodName := ⟨RX8, "<init>", "(LRansomHymn$Tokens;LRansomHymn$Hymn;)V"⟩
abbrev cX8_tell : ByteArray := prog_10_method_2_code
def yX8_tell : MethodName := ⟨RX8, "tell", "(I)I"⟩
abbrev cX8_readTavern : ByteArray := prog_10_method_3_code
def yX8_readTavern : MethodName := ⟨RX8, "readTavern", "()V"⟩
abbrev cX8_readVoice : ByteArray := prog_10_method_4_code
def yX8_readVoice : MethodName := ⟨RX8, "readVoice", "()V"⟩
abbrev cX8_readVerse : ByteArray := prog_10_method_5_code
def yX8_readVerse : MethodName := ⟨RX8, "readVerse", "()V"⟩
abbrev cX8_readPart : ByteArray := prog_10_method_6_code
def yX8_readPart : MethodName := ⟨RX8, "readPart", "(I)V"⟩
abbrev cX8_readBaker : ByteArray := prog_10_method_7_code
def yX8_readBaker : MethodName := ⟨RX8, "readBaker", "()V"⟩
abbrev cX8_loneNumber : ByteArray := prog_10_method_8_code
def yX8_loneNumber : MethodName := ⟨RX8, "loneNumber", "(ZI)I"⟩
abbrev cX8_readLaw : ByteArray := prog_10_method_9_code
def yX8_readLaw : MethodName := ⟨RX8, "readLaw", "()V"⟩
abbrev cX8_begin : ByteArray := prog_10_method_10_code
def yX8_begin : MethodName := ⟨RX8, "begin", "(LRansomHymn$Roll;)I"⟩
abbrev cX8_toldTavern : ByteArray := prog_10_method_11_code
def yX8_toldTavern : MethodName := ⟨RX8, "toldTavern", "()I"⟩
abbrev cX8_number : ByteArray := prog_10_method_12_code
def yX8_number : MethodName := ⟨RX8, "number", "(II)I"⟩
abbrev cX8_skips : ByteArray := prog_10_method_13_code
def yX8_skips : MethodName := ⟨RX8, "skips", "(I)Z"⟩
def RX9 : String := "RansomHymn$Tokens"
def TX9 : u_T := fun k => match k with
  | 0 => ("RansomHymn$Tokens", "bytes", "[B", true)
  | 1 => ("RansomHymn$Tokens", "words", "[I", true)
  | 2 => ("RansomHymn$Tokens", "end", "I", false)
  | 3 => ("RansomHymn$Tokens", "at", "I", false)
  | 4 => ("RansomHymn$Tokens", "kind", "I", false)
  | 5 => ("RansomHymn$Tokens", "place", "I", false)
  | 6 => ("RansomHymn$Tokens", "value", "I", false)
  | 7 => ("RansomHymn$Tokens", "faultKind", "I", false)
  | _ => ("RansomHymn$Tokens", "faultPlace", "I", false)
def tyX9 : Nat → FieldType := fun k => match k with
  | 0 => .array .byte
  | 1 => .array .int
  | 2 => .int
  | 3 => .int
  | 4 => .int
  | 5 => .int
  | 6 => .int
  | 7 => .int
  | _ => .int
theorem nmX9 : ∀ a, a < 9 → ∀ b, b < 9 → a ≠ b → (TX9 a).2.1 ≠ (TX9 b).2.1 := by decide +kernel
theorem tyX9_ok : ∀ k, k < 9 → parseFieldDescriptor (TX9 k).2.2.1 = some (tyX9 k) := by decide +kernel
abbrev cX9_init : ByteArray := prog_11_method_1_code
def yX9_init : MethodName := ⟨RX9, "<init>", "([B)V"⟩
abbrev cX9_packWords : ByteArray := prog_11_method_2_code
def yX9_packWords : MethodName := ⟨RX9, "packWords", "(Ljava/lang/String;I)V"⟩
abbrev cX9_start : ByteArray := prog_11_method_3_code
def yX9_start : MethodName := ⟨RX9, "start", "(I)V"⟩
abbrev cX9_fail : ByteArray := prog_11_method_4_code
def yX9_fail : MethodName := ⟨RX9, "fail", "(I)Z"⟩
abbrev cX9_next : ByteArray := prog_11_method_5_code
def yX9_next : MethodName := ⟨RX9, "next", "()V"⟩
abbrev cX9_isLetter : ByteArray := prog_11_method_6_code
def yX9_isLetter : MethodName := ⟨RX9, "isLetter", "(I)Z"⟩
abbrev cX9_isDigit : ByteArray := prog_11_method_7_code
def yX9_isDigit : MethodName := ⟨RX9, "isDigit", "(I)Z"⟩
abbrev cX9_readWord : ByteArray := prog_11_method_8_code
def yX9_readWord : MethodName := ⟨RX9, "readWord", "()V"⟩
abbrev cX9_readNumber : ByteArray := prog_11_method_9_code
def yX9_readNumber : MethodName := ⟨RX9, "readNumber", "()V"⟩
abbrev cX9_readSign : ByteArray := prog_11_method_10_code
def yX9_readSign : MethodName := ⟨RX9, "readSign", "()V"⟩
abbrev cX9_signKind : ByteArray := prog_11_method_11_code
def yX9_signKind : MethodName := ⟨RX9, "signKind", "(II)I"⟩
def RX10 : String := "RansomHymn$World"
def TX10 : u_T := fun k => match k with
  | 0 => ("RansomHymn$World", "tills", "[I", true)
  | 1 => ("RansomHymn$World", "claims", "[I", true)
  | 2 => ("RansomHymn$World", "bakerPurses", "[I", true)
  | 3 => ("RansomHymn$World", "singers", "[I", true)
  | 4 => ("RansomHymn$World", "slots", "[I", true)
  | 5 => ("RansomHymn$World", "paid", "[I", true)
  | 6 => ("RansomHymn$World", "redeemed", "I", false)
  | 7 => ("RansomHymn$World", "week", "I", false)
  | 8 => ("RansomHymn$World", "purse", "I", false)
  | 9 => ("RansomHymn$World", "paidOut", "I", false)
  | 10 => ("RansomHymn$World", "cracked", "I", false)
  | 11 => ("RansomHymn$World", "knownBy", "I", false)
  | _ => ("RansomHymn$World", "random", "I", false)
def tyX10 : Nat → FieldType := fun k => match k with
  | 0 => .array .int
  | 1 => .array .int
  | 2 => .array .int
  | 3 => .array .int
  | 4 => .array .int
  | 5 => .array .int
  | 6 => .int
  | 7 => .int
  | 8 => .int
  | 9 => .int
  | 10 => .int
  | 11 => .int
  | _ => .int
theorem nmX10 : ∀ a, a < 13 → ∀ b, b < 13 → a ≠ b → (TX10 a).2.1 ≠ (TX10 b).2.1 := by decide +kernel
theorem tyX10_ok : ∀ k, k < 13 → parseFieldDescriptor (TX10 k).2.2.1 = some (tyX10 k) := by decide +kernel
abbrev cX10_init : ByteArray := prog_12_method_1_code
def yX10_init : MethodName := ⟨RX10, "<init>", "()V"⟩
abbrev cX10_begin : ByteArray := prog_12_method_2_code
def yX10_begin : MethodName := ⟨RX10, "begin", "(LRansomHymn$Hymn;)V"⟩
abbrev cX10_take : ByteArray := prog_12_method_3_code
def yX10_take : MethodName := ⟨RX10, "take", "(LRansomHymn$World;)V"⟩
abbrev cX10_isCracked : ByteArray := prog_12_method_4_code
def yX10_isCracked : MethodName := ⟨RX10, "isCracked", "(I)Z"⟩
abbrev cX10_enlist : ByteArray := prog_12_method_5_code
def yX10_enlist : MethodName := ⟨RX10, "enlist", "(IIII)V"⟩
abbrev cX10_dismiss : ByteArray := prog_12_method_6_code
def yX10_dismiss : MethodName := ⟨RX10, "dismiss", "(I)V"⟩
abbrev cX10_dismissAll : ByteArray := prog_12_method_7_code
def yX10_dismissAll : MethodName := ⟨RX10, "dismissAll", "()V"⟩
abbrev cX10_nextNumber : ByteArray := prog_12_method_8_code
def yX10_nextNumber : MethodName := ⟨RX10, "nextNumber", "()I"⟩
abbrev cX10_allCoin : ByteArray := prog_12_method_9_code
def yX10_allCoin : MethodName := ⟨RX10, "allCoin", "()I"⟩
def RX11 : String := "RansomHymn"
def TX11 : u_T := fun k => match k with
  | 0 => ("RansomHymn", "tape", "[B", true)
  | 1 => ("RansomHymn", "hymn", "LRansomHymn$Hymn;", true)
  | 2 => ("RansomHymn", "draft", "LRansomHymn$Hymn;", true)
  | 3 => ("RansomHymn", "teller", "LRansomHymn$Teller;", true)
  | 4 => ("RansomHymn", "now", "LRansomHymn$World;", true)
  | 5 => ("RansomHymn", "image", "LRansomHymn$World;", true)
  | 6 => ("RansomHymn", "hums", "LRansomHymn$Hums;", true)
  | 7 => ("RansomHymn", "laws", "LRansomHymn$Laws;", true)
  | 8 => ("RansomHymn", "choice", "LRansomHymn$Choice;", true)
  | 9 => ("RansomHymn", "sale", "LRansomHymn$Sale;", true)
  | 10 => ("RansomHymn", "canon", "LRansomHymn$Canon;", true)
  | 11 => ("RansomHymn", "taped", "I", false)
  | 12 => ("RansomHymn", "faultKind", "I", false)
  | 13 => ("RansomHymn", "faultPlace", "I", false)
  | _ => ("RansomHymn", "kept", "Z", false)
def tyX11 : Nat → FieldType := fun k => match k with
  | 0 => .array .byte
  | 1 => .object "RansomHymn$Hymn"
  | 2 => .object "RansomHymn$Hymn"
  | 3 => .object "RansomHymn$Teller"
  | 4 => .object "RansomHymn$World"
  | 5 => .object "RansomHymn$World"
  | 6 => .object "RansomHymn$Hums"
  | 7 => .object "RansomHymn$Laws"
  | 8 => .object "RansomHymn$Choice"
  | 9 => .object "RansomHymn$Sale"
  | 10 => .object "RansomHymn$Canon"
  | 11 => .int
  | 12 => .int
  | 13 => .int
  | _ => .boolean
theorem nmX11 : ∀ a, a < 15 → ∀ b, b < 15 → a ≠ b → (TX11 a).2.1 ≠ (TX11 b).2.1 := by decide +kernel
theorem tyX11_ok : ∀ k, k < 15 → parseFieldDescriptor (TX11 k).2.2.1 = some (tyX11 k) := by decide +kernel
abbrev cX11_init : ByteArray := prog_1_method_1_code
def yX11_init : MethodName := ⟨RX11, "<init>", "()V"⟩
abbrev cX11_feed : ByteArray := prog_1_method_2_code
def yX11_feed : MethodName := ⟨RX11, "feed", "(IIIII)I"⟩
abbrev cX11_text : ByteArray := prog_1_method_3_code
def yX11_text : MethodName := ⟨RX11, "text", "(I)I"⟩
abbrev cX11_fault : ByteArray := prog_1_method_4_code
def yX11_fault : MethodName := ⟨RX11, "fault", "(I)I"⟩
abbrev cX11_named : ByteArray := prog_1_method_5_code
def yX11_named : MethodName := ⟨RX11, "named", "(II)I"⟩
abbrev cX11_look : ByteArray := prog_1_method_6_code
def yX11_look : MethodName := ⟨RX11, "look", "(II)I"⟩
abbrev cX11_tavern : ByteArray := prog_1_method_7_code
def yX11_tavern : MethodName := ⟨RX11, "tavern", "(II)I"⟩
abbrev cX11_verse : ByteArray := prog_1_method_8_code
def yX11_verse : MethodName := ⟨RX11, "verse", "(II)I"⟩
abbrev cX11_pitch : ByteArray := prog_1_method_9_code
def yX11_pitch : MethodName := ⟨RX11, "pitch", "(III)I"⟩
abbrev cX11_due : ByteArray := prog_1_method_10_code
def yX11_due : MethodName := ⟨RX11, "due", "(III)I"⟩
abbrev cX11_sounds : ByteArray := prog_1_method_11_code
def yX11_sounds : MethodName := ⟨RX11, "sounds", "(III)I"⟩
abbrev cX11_bids : ByteArray := prog_1_method_12_code
def yX11_bids : MethodName := ⟨RX11, "bids", "(II)I"⟩
abbrev cX11_cracks : ByteArray := prog_1_method_13_code
def yX11_cracks : MethodName := ⟨RX11, "cracks", "(I)I"⟩
abbrev cX11_redeem : ByteArray := prog_1_method_14_code
def yX11_redeem : MethodName := ⟨RX11, "redeem", "(III)I"⟩
abbrev cX11_undo : ByteArray := prog_1_method_15_code
def yX11_undo : MethodName := ⟨RX11, "undo", "()I"⟩
abbrev cX11_sings : ByteArray := prog_1_method_16_code
def yX11_sings : MethodName := ⟨RX11, "sings", "(II)I"⟩
abbrev cX11_bar : ByteArray := prog_1_method_17_code
def yX11_bar : MethodName := ⟨RX11, "bar", "(II)I"⟩
abbrev cX11_sunday : ByteArray := prog_1_method_18_code
def yX11_sunday : MethodName := ⟨RX11, "sunday", "()I"⟩
abbrev cX11_best : ByteArray := prog_1_method_19_code
def yX11_best : MethodName := ⟨RX11, "best", "(II)I"⟩
abbrev cX11_chosen : ByteArray := prog_1_method_20_code
def yX11_chosen : MethodName := ⟨RX11, "chosen", "(III)I"⟩
abbrev cX11_sold : ByteArray := prog_1_method_21_code
def yX11_sold : MethodName := ⟨RX11, "sold", "(III)I"⟩
abbrev cX11_easter : ByteArray := prog_1_method_22_code
def yX11_easter : MethodName := ⟨RX11, "easter", "(I)I"⟩
abbrev cX11_hum : ByteArray := prog_1_method_23_code
def yX11_hum : MethodName := ⟨RX11, "hum", "(I)I"⟩
abbrev cX11_strike : ByteArray := prog_1_method_24_code
def yX11_strike : MethodName := ⟨RX11, "strike", "(I)I"⟩
abbrev cX11_known : ByteArray := prog_1_method_25_code
def yX11_known : MethodName := ⟨RX11, "known", "(I)Z"⟩
abbrev cX11_thieves : ByteArray := prog_1_method_26_code
def yX11_thieves : MethodName := ⟨RX11, "thieves", "()I"⟩
abbrev cX11_odds : ByteArray := prog_1_method_27_code
def yX11_odds : MethodName := ⟨RX11, "odds", "(II)I"⟩
abbrev cX11_gang : ByteArray := prog_1_method_28_code
def yX11_gang : MethodName := ⟨RX11, "gang", "()I"⟩
abbrev cX11_round : ByteArray := prog_1_method_29_code
def yX11_round : MethodName := ⟨RX11, "round", "(IIII)I"⟩
abbrev cX11_entry : ByteArray := prog_1_method_30_code
def yX11_entry : MethodName := ⟨RX11, "entry", "(IIIII)I"⟩
abbrev cX11_run : ByteArray := prog_1_method_31_code
def yX11_run : MethodName := ⟨RX11, "run", "(II)I"⟩
abbrev cX11_pay : ByteArray := prog_1_method_32_code
def yX11_pay : MethodName := ⟨RX11, "pay", "(I)I"⟩
abbrev cX11_whole : ByteArray := prog_1_method_33_code
def yX11_whole : MethodName := ⟨RX11, "whole", "(III)J"⟩
abbrev cX11_keep : ByteArray := prog_1_method_34_code
def yX11_keep : MethodName := ⟨RX11, "keep", "()I"⟩
abbrev cX11_back : ByteArray := prog_1_method_35_code
def yX11_back : MethodName := ⟨RX11, "back", "()I"⟩
abbrev cX11_count : ByteArray := prog_1_method_36_code
def yX11_count : MethodName := ⟨RX11, "count", "(I)I"⟩
abbrev cX11_slotOf : ByteArray := prog_1_method_37_code
def yX11_slotOf : MethodName := ⟨RX11, "slotOf", "(II)I"⟩
abbrev cX11_tapeNumber : ByteArray := prog_1_method_38_code
def yX11_tapeNumber : MethodName := ⟨RX11, "tapeNumber", "(I)V"⟩
abbrev cX11_claimsOn : ByteArray := prog_1_method_39_code
def yX11_claimsOn : MethodName := ⟨RX11, "claimsOn", "(I)I"⟩
abbrev cX11_singsIn : ByteArray := prog_1_method_40_code
def yX11_singsIn : MethodName := ⟨RX11, "singsIn", "(II)Z"⟩
abbrev cX11_singPart : ByteArray := prog_1_method_41_code
def yX11_singPart : MethodName := ⟨RX11, "singPart", "(I)I"⟩
abbrev cX11_crackBoys : ByteArray := prog_1_method_42_code
def yX11_crackBoys : MethodName := ⟨RX11, "crackBoys", "()V"⟩
abbrev cX11_knownCount : ByteArray := prog_1_method_43_code
def yX11_knownCount : MethodName := ⟨RX11, "knownCount", "()I"⟩
abbrev cX11_reachOf : ByteArray := prog_1_method_44_code
def yX11_reachOf : MethodName := ⟨RX11, "reachOf", "(I)J"⟩
abbrev cX11_isRound : ByteArray := prog_1_method_45_code
def yX11_isRound : MethodName := ⟨RX11, "isRound", "(IIII)Z"⟩
abbrev cX11_shareOf : ByteArray := prog_1_method_46_code
def yX11_shareOf : MethodName := ⟨RX11, "shareOf", "(II)I"⟩
abbrev cX11_leastTerm : ByteArray := prog_1_method_47_code
def yX11_leastTerm : MethodName := ⟨RX11, "leastTerm", "(JJI)J"⟩
def RX12 : String := "RansomHymnModel"
def TX12 : u_T := fun k => match k with
  | 0 => ("RansomHymnModel", "thrown", "I", false)
  | 1 => ("RansomHymnModel", "tape", "[I", true)
  | 2 => ("RansomHymnModel", "taped", "I", false)
  | 3 => ("RansomHymnModel", "number", "[I", true)
  | 4 => ("RansomHymnModel", "tavernName", "[I", true)
  | 5 => ("RansomHymnModel", "tavernRate", "[I", true)
  | 6 => ("RansomHymnModel", "tavernTill", "[I", true)
  | 7 => ("RansomHymnModel", "voiceName", "[I", true)
  | 8 => ("RansomHymnModel", "voiceLow", "[I", true)
  | 9 => ("RansomHymnModel", "voiceHigh", "[I", true)
  | 10 => ("RansomHymnModel", "isBoy", "[Z", true)
  | 11 => ("RansomHymnModel", "pawnAt", "[I", true)
  | 12 => ("RansomHymnModel", "voiceDebt", "[I", true)
  | 13 => ("RansomHymnModel", "voiceOdds", "[I", true)
  | 14 => ("RansomHymnModel", "verseName", "[I", true)
  | 15 => ("RansomHymnModel", "verseParts", "[I", true)
  | 16 => ("RansomHymnModel", "barMany", "[I", true)
  | 17 => ("RansomHymnModel", "pitches", "[I", true)
  | 18 => ("RansomHymnModel", "bakerName", "[I", true)
  | 19 => ("RansomHymnModel", "bakerPurse", "[I", true)
  | 20 => ("RansomHymnModel", "sumFrom", "[I", true)
  | 21 => ("RansomHymnModel", "sumTo", "[I", true)
  | 22 => ("RansomHymnModel", "knotSort", "[I", true)
  | 23 => ("RansomHymnModel", "knotValue", "[I", true)
  | 24 => ("RansomHymnModel", "told", "I", false)
  | 25 => ("RansomHymnModel", "lines", "I", false)
  | 26 => ("RansomHymnModel", "size", "I", false)
  | 27 => ("RansomHymnModel", "at", "I", false)
  | 28 => ("RansomHymnModel", "place", "I", false)
  | 29 => ("RansomHymnModel", "sort", "I", false)
  | 30 => ("RansomHymnModel", "value", "I", false)
  | 31 => ("RansomHymnModel", "fault", "I", false)
  | 32 => ("RansomHymnModel", "faultPlace", "I", false)
  | 33 => ("RansomHymnModel", "lastFault", "I", false)
  | 34 => ("RansomHymnModel", "lastPlace", "I", false)
  | 35 => ("RansomHymnModel", "open", "I", false)
  | 36 => ("RansomHymnModel", "counted", "I", false)
  | 37 => ("RansomHymnModel", "week", "[I", true)
  | 38 => ("RansomHymnModel", "purse", "[I", true)
  | 39 => ("RansomHymnModel", "drawn", "[I", true)
  | 40 => ("RansomHymnModel", "runsPaid", "[I", true)
  | 41 => ("RansomHymnModel", "cracked", "[I", true)
  | 42 => ("RansomHymnModel", "till", "[I", true)
  | 43 => ("RansomHymnModel", "bakerNow", "[I", true)
  | 44 => ("RansomHymnModel", "claim", "[I", true)
  | 45 => ("RansomHymnModel", "sung", "[I", true)
  | 46 => ("RansomHymnModel", "doneMany", "[I", true)
  | 47 => ("RansomHymnModel", "donePart", "[I", true)
  | 48 => ("RansomHymnModel", "donePaid", "[I", true)
  | 49 => ("RansomHymnModel", "hasImage", "Z", false)
  | 50 => ("RansomHymnModel", "names", "[J", true)
  | 51 => ("RansomHymnModel", "worked", "[J", true)
  | 52 => ("RansomHymnModel", "workedMany", "I", false)
  | 53 => ("RansomHymnModel", "bestNotes", "[I", true)
  | 54 => ("RansomHymnModel", "bestCrowns", "[I", true)
  | 55 => ("RansomHymnModel", "dues", "[I", true)
  | 56 => ("RansomHymnModel", "notesBy", "[I", true)
  | 57 => ("RansomHymnModel", "who", "[I", true)
  | 58 => ("RansomHymnModel", "leftOf", "[I", true)
  | 59 => ("RansomHymnModel", "soldTo", "I", false)
  | 60 => ("RansomHymnModel", "soldFor", "I", false)
  | 61 => ("RansomHymnModel", "heard", "I", false)
  | 62 => ("RansomHymnModel", "knownBy", "I", false)
  | 63 => ("RansomHymnModel", "humPitch", "[I", true)
  | 64 => ("RansomHymnModel", "humStrike", "[I", true)
  | 65 => ("RansomHymnModel", "isStruck", "[Z", true)
  | 66 => ("RansomHymnModel", "entries", "[I", true)
  | 67 => ("RansomHymnModel", "bestEntries", "[I", true)
  | _ => ("RansomHymnModel", "gaps", "I", false)
def tyX12 : Nat → FieldType := fun k => match k with
  | 0 => .int
  | 1 => .array .int
  | 2 => .int
  | 3 => .array .int
  | 4 => .array .int
  | 5 => .array .int
  | 6 => .array .int
  | 7 => .array .int
  | 8 => .array .int
  | 9 => .array .int
  | 10 => .array .boolean
  | 11 => .array .int
  | 12 => .array .int
  | 13 => .array .int
  | 14 => .array .int
  | 15 => .array .int
  | 16 => .array .int
  | 17 => .array .int
  | 18 => .array .int
  | 19 => .array .int
  | 20 => .array .int
  | 21 => .array .int
  | 22 => .array .int
  | 23 => .array .int
  | 24 => .int
  | 25 => .int
  | 26 => .int
  | 27 => .int
  | 28 => .int
  | 29 => .int
  | 30 => .int
  | 31 => .int
  | 32 => .int
  | 33 => .int
  | 34 => .int
  | 35 => .int
  | 36 => .int
  | 37 => .array .int
  | 38 => .array .int
  | 39 => .array .int
  | 40 => .array .int
  | 41 => .array .int
  | 42 => .array .int
  | 43 => .array .int
  | 44 => .array .int
  | 45 => .array .int
  | 46 => .array .int
  | 47 => .array .int
  | 48 => .array .int
  | 49 => .boolean
  | 50 => .array .long
  | 51 => .array .long
  | 52 => .int
  | 53 => .array .int
  | 54 => .array .int
  | 55 => .array .int
  | 56 => .array .int
  | 57 => .array .int
  | 58 => .array .int
  | 59 => .int
  | 60 => .int
  | 61 => .int
  | 62 => .int
  | 63 => .array .int
  | 64 => .array .int
  | 65 => .array .boolean
  | 66 => .array .int
  | 67 => .array .int
  | _ => .int
theorem nmX12 : ∀ a, a < 69 → ∀ b, b < 69 → a ≠ b → (TX12 a).2.1 ≠ (TX12 b).2.1 := by decide +kernel
theorem tyX12_ok : ∀ k, k < 69 → parseFieldDescriptor (TX12 k).2.2.1 = some (tyX12 k) := by decide +kernel
abbrev cX12_init : ByteArray := prog_14_method_1_code
def yX12_init : MethodName := ⟨RX12, "<init>", "()V"⟩
abbrev cX12_feed : ByteArray := prog_14_method_3_code
def yX12_feed : MethodName := ⟨RX12, "feed", "(IIIII)I"⟩
abbrev cX12_here : ByteArray := prog_14_method_4_code
def yX12_here : MethodName := ⟨RX12, "here", "()I"⟩
abbrev cX12_isSmall : ByteArray := prog_14_method_5_code
def yX12_isSmall : MethodName := ⟨RX12, "isSmall", "(I)Z"⟩
abbrev cX12_isDigit : ByteArray := prog_14_method_6_code
def yX12_isDigit : MethodName := ⟨RX12, "isDigit", "(I)Z"⟩
abbrev cX12_token : ByteArray := prog_14_method_7_code
def yX12_token : MethodName := ⟨RX12, "token", "()V"⟩
abbrev cX12_sign : ByteArray := prog_14_method_8_code
def yX12_sign : MethodName := ⟨RX12, "sign", "(I)V"⟩
abbrev cX12_word : ByteArray := prog_14_method_9_code
def yX12_word : MethodName := ⟨RX12, "word", "()I"⟩
abbrev cX12_name : ByteArray := prog_14_method_10_code
def yX12_name : MethodName := ⟨RX12, "name", "()V"⟩
abbrev cX12_wrong : ByteArray := prog_14_method_11_code
def yX12_wrong : MethodName := ⟨RX12, "wrong", "(I)V"⟩
abbrev cX12_isWord : ByteArray := prog_14_method_12_code
def yX12_isWord : MethodName := ⟨RX12, "isWord", "(I)Z"⟩
abbrev cX12_isSign : ByteArray := prog_14_method_13_code
def yX12_isSign : MethodName := ⟨RX12, "isSign", "(I)Z"⟩
abbrev cX12_goOn : ByteArray := prog_14_method_14_code
def yX12_goOn : MethodName := ⟨RX12, "goOn", "()V"⟩
abbrev cX12_numeral : ByteArray := prog_14_method_15_code
def yX12_numeral : MethodName := ⟨RX12, "numeral", "(II)I"⟩
abbrev cX12_found : ByteArray := prog_14_method_16_code
def yX12_found : MethodName := ⟨RX12, "found", "([IIII)I"⟩
abbrev cX12_fresh : ByteArray := prog_14_method_17_code
def yX12_fresh : MethodName := ⟨RX12, "fresh", "([III)I"⟩
abbrev cX12_tavernAhead : ByteArray := prog_14_method_18_code
def yX12_tavernAhead : MethodName := ⟨RX12, "tavernAhead", "()I"⟩
abbrev cX12_fresher : ByteArray := prog_14_method_19_code
def yX12_fresher : MethodName := ⟨RX12, "fresher", "(I)I"⟩
abbrev cX12_reads : ByteArray := prog_14_method_20_code
def yX12_reads : MethodName := ⟨RX12, "reads", "(II)V"⟩
abbrev cX12_isFull : ByteArray := prog_14_method_21_code
def yX12_isFull : MethodName := ⟨RX12, "isFull", "(I)Z"⟩
abbrev cX12_line : ByteArray := prog_14_method_22_code
def yX12_line : MethodName := ⟨RX12, "line", "()V"⟩
abbrev cX12_sumOf : ByteArray := prog_14_method_23_code
def yX12_sumOf : MethodName := ⟨RX12, "sumOf", "(I)V"⟩
abbrev cX12_voiceLine : ByteArray := prog_14_method_24_code
def yX12_voiceLine : MethodName := ⟨RX12, "voiceLine", "(I)V"⟩
abbrev cX12_verseLine : ByteArray := prog_14_method_25_code
def yX12_verseLine : MethodName := ⟨RX12, "verseLine", "(I)V"⟩
abbrev cX12_partLine : ByteArray := prog_14_method_26_code
def yX12_partLine : MethodName := ⟨RX12, "partLine", "(I)V"⟩
abbrev cX12_lawLine : ByteArray := prog_14_method_27_code
def yX12_lawLine : MethodName := ⟨RX12, "lawLine", "()V"⟩
abbrev cX12_puts : ByteArray := prog_14_method_28_code
def yX12_puts : MethodName := ⟨RX12, "puts", "(II)V"⟩
abbrev cX12_knot : ByteArray := prog_14_method_29_code
def yX12_knot : MethodName := ⟨RX12, "knot", "()V"⟩
abbrev cX12_expression : ByteArray := prog_14_method_30_code
def yX12_expression : MethodName := ⟨RX12, "expression", "()V"⟩
abbrev cX12_conjunction : ByteArray := prog_14_method_31_code
def yX12_conjunction : MethodName := ⟨RX12, "conjunction", "()V"⟩
abbrev cX12_negation : ByteArray := prog_14_method_32_code
def yX12_negation : MethodName := ⟨RX12, "negation", "()V"⟩
abbrev cX12_sum : ByteArray := prog_14_method_33_code
def yX12_sum : MethodName := ⟨RX12, "sum", "()V"⟩
abbrev cX12_product : ByteArray := prog_14_method_34_code
def yX12_product : MethodName := ⟨RX12, "product", "()V"⟩
abbrev cX12_primary : ByteArray := prog_14_method_35_code
def yX12_primary : MethodName := ⟨RX12, "primary", "()V"⟩
abbrev cX12_half : ByteArray := prog_14_method_36_code
def yX12_half : MethodName := ⟨RX12, "half", "([I)V"⟩
abbrev cX12_text : ByteArray := prog_14_method_37_code
def yX12_text : MethodName := ⟨RX12, "text", "(I)I"⟩
abbrev cX12_fault : ByteArray := prog_14_method_38_code
def yX12_fault : MethodName := ⟨RX12, "fault", "(I)I"⟩
abbrev cX12_named : ByteArray := prog_14_method_39_code
def yX12_named : MethodName := ⟨RX12, "named", "(II)I"⟩
abbrev cX12_begins : ByteArray := prog_14_method_40_code
def yX12_begins : MethodName := ⟨RX12, "begins", "()V"⟩
abbrev cX12_copies : ByteArray := prog_14_method_41_code
def yX12_copies : MethodName := ⟨RX12, "copies", "(II)V"⟩
abbrev cX12_isTavern : ByteArray := prog_14_method_42_code
def yX12_isTavern : MethodName := ⟨RX12, "isTavern", "(I)Z"⟩
abbrev cX12_isVoice : ByteArray := prog_14_method_43_code
def yX12_isVoice : MethodName := ⟨RX12, "isVoice", "(I)Z"⟩
abbrev cX12_isVerse : ByteArray := prog_14_method_44_code
def yX12_isVerse : MethodName := ⟨RX12, "isVerse", "(I)Z"⟩
abbrev cX12_isPart : ByteArray := prog_14_method_45_code
def yX12_isPart : MethodName := ⟨RX12, "isPart", "(II)Z"⟩
abbrev cX12_isCracked : ByteArray := prog_14_method_46_code
def yX12_isCracked : MethodName := ⟨RX12, "isCracked", "(I)Z"⟩
abbrev cX12_look : ByteArray := prog_14_method_47_code
def yX12_look : MethodName := ⟨RX12, "look", "(II)I"⟩
abbrev cX12_tavern : ByteArray := prog_14_method_48_code
def yX12_tavern : MethodName := ⟨RX12, "tavern", "(II)I"⟩
abbrev cX12_verse : ByteArray := prog_14_method_49_code
def yX12_verse : MethodName := ⟨RX12, "verse", "(II)I"⟩
abbrev cX12_pitch : ByteArray := prog_14_method_50_code
def yX12_pitch : MethodName := ⟨RX12, "pitch", "(III)I"⟩
abbrev cX12_is : ByteArray := prog_14_method_51_code
def yX12_is : MethodName := ⟨RX12, "is", "(Z)J"⟩
abbrev cX12_works : ByteArray := prog_14_method_52_code
def yX12_works : MethodName := ⟨RX12, "works", "(I)Z"⟩
abbrev cX12_goes : ByteArray := prog_14_method_53_code
def yX12_goes : MethodName := ⟨RX12, "goes", "(I)Z"⟩
abbrev cX12_within : ByteArray := prog_14_method_54_code
def yX12_within : MethodName := ⟨RX12, "within", "(III)I"⟩
abbrev cX12_reaches : ByteArray := prog_14_method_55_code
def yX12_reaches : MethodName := ⟨RX12, "reaches", "(II)Z"⟩
abbrev cX12_isSounded : ByteArray := prog_14_method_56_code
def yX12_isSounded : MethodName := ⟨RX12, "isSounded", "(III)Z"⟩
abbrev cX12_soundsOf : ByteArray := prog_14_method_57_code
def yX12_soundsOf : MethodName := ⟨RX12, "soundsOf", "(II)I"⟩
abbrev cX12_restsOf : ByteArray := prog_14_method_58_code
def yX12_restsOf : MethodName := ⟨RX12, "restsOf", "(I)I"⟩
abbrev cX12_highOf : ByteArray := prog_14_method_59_code
def yX12_highOf : MethodName := ⟨RX12, "highOf", "(I)I"⟩
abbrev cX12_calls : ByteArray := prog_14_method_60_code
def yX12_calls : MethodName := ⟨RX12, "calls", "(I)V"⟩
abbrev cX12_dueOf : ByteArray := prog_14_method_61_code
def yX12_dueOf : MethodName := ⟨RX12, "dueOf", "(II)I"⟩
abbrev cX12_crackOf : ByteArray := prog_14_method_62_code
def yX12_crackOf : MethodName := ⟨RX12, "crackOf", "(II)I"⟩
abbrev cX12_bidOf : ByteArray := prog_14_method_63_code
def yX12_bidOf : MethodName := ⟨RX12, "bidOf", "(III)I"⟩
abbrev cX12_due : ByteArray := prog_14_method_64_code
def yX12_due : MethodName := ⟨RX12, "due", "(III)I"⟩
abbrev cX12_sounds : ByteArray := prog_14_method_65_code
def yX12_sounds : MethodName := ⟨RX12, "sounds", "(III)I"⟩
abbrev cX12_bids : ByteArray := prog_14_method_66_code
def yX12_bids : MethodName := ⟨RX12, "bids", "(II)I"⟩
abbrev cX12_cracks : ByteArray := prog_14_method_67_code
def yX12_cracks : MethodName := ⟨RX12, "cracks", "(I)I"⟩
abbrev cX12_singsIn : ByteArray := prog_14_method_68_code
def yX12_singsIn : MethodName := ⟨RX12, "singsIn", "(II)Z"⟩
abbrev cX12_redeem : ByteArray := prog_14_method_69_code
def yX12_redeem : MethodName := ⟨RX12, "redeem", "(III)I"⟩
abbrev cX12_undo : ByteArray := prog_14_method_70_code
def yX12_undo : MethodName := ⟨RX12, "undo", "()I"⟩
abbrev cX12_sings : ByteArray := prog_14_method_71_code
def yX12_sings : MethodName := ⟨RX12, "sings", "(II)I"⟩
abbrev cX12_bar : ByteArray := prog_14_method_72_code
def yX12_bar : MethodName := ⟨RX12, "bar", "(II)I"⟩
abbrev cX12_draw : ByteArray := prog_14_method_73_code
def yX12_draw : MethodName := ⟨RX12, "draw", "()I"⟩
abbrev cX12_sunday : ByteArray := prog_14_method_74_code
def yX12_sunday : MethodName := ⟨RX12, "sunday", "()I"⟩
abbrev cX12_layDues : ByteArray := prog_14_method_75_code
def yX12_layDues : MethodName := ⟨RX12, "layDues", "()V"⟩
abbrev cX12_costOf : ByteArray := prog_14_method_76_code
def yX12_costOf : MethodName := ⟨RX12, "costOf", "(I)I"⟩
abbrev cX12_gainOf : ByteArray := prog_14_method_77_code
def yX12_gainOf : MethodName := ⟨RX12, "gainOf", "(I)I"⟩
abbrev cX12_mayBe : ByteArray := prog_14_method_78_code
def yX12_mayBe : MethodName := ⟨RX12, "mayBe", "(I)Z"⟩
abbrev cX12_goesNext : ByteArray := prog_14_method_79_code
def yX12_goesNext : MethodName := ⟨RX12, "goesNext", "(I)Z"⟩
abbrev cX12_starts : ByteArray := prog_14_method_80_code
def yX12_starts : MethodName := ⟨RX12, "starts", "()V"⟩
abbrev cX12_layBest : ByteArray := prog_14_method_81_code
def yX12_layBest : MethodName := ⟨RX12, "layBest", "(I)V"⟩
abbrev cX12_tries : ByteArray := prog_14_method_82_code
def yX12_tries : MethodName := ⟨RX12, "tries", "(IIII)V"⟩
abbrev cX12_isCrowns : ByteArray := prog_14_method_83_code
def yX12_isCrowns : MethodName := ⟨RX12, "isCrowns", "(I)Z"⟩
abbrev cX12_best : ByteArray := prog_14_method_84_code
def yX12_best : MethodName := ⟨RX12, "best", "(II)I"⟩
abbrev cX12_chosen : ByteArray := prog_14_method_85_code
def yX12_chosen : MethodName := ⟨RX12, "chosen", "(III)I"⟩
abbrev cX12_isBest : ByteArray := prog_14_method_86_code
def yX12_isBest : MethodName := ⟨RX12, "isBest", "(II)Z"⟩
abbrev cX12_sells : ByteArray := prog_14_method_87_code
def yX12_sells : MethodName := ⟨RX12, "sells", "(II)I"⟩
abbrev cX12_areVerses : ByteArray := prog_14_method_88_code
def yX12_areVerses : MethodName := ⟨RX12, "areVerses", "(I)Z"⟩
abbrev cX12_sold : ByteArray := prog_14_method_89_code
def yX12_sold : MethodName := ⟨RX12, "sold", "(III)I"⟩
abbrev cX12_easter : ByteArray := prog_14_method_90_code
def yX12_easter : MethodName := ⟨RX12, "easter", "(I)I"⟩
abbrev cX12_hum : ByteArray := prog_14_method_91_code
def yX12_hum : MethodName := ⟨RX12, "hum", "(I)I"⟩
abbrev cX12_strike : ByteArray := prog_14_method_92_code
def yX12_strike : MethodName := ⟨RX12, "strike", "(I)I"⟩
abbrev cX12_known : ByteArray := prog_14_method_93_code
def yX12_known : MethodName := ⟨RX12, "known", "(I)Z"⟩
abbrev cX12_knownMany : ByteArray := prog_14_method_94_code
def yX12_knownMany : MethodName := ⟨RX12, "knownMany", "()I"⟩
abbrev cX12_strikes : ByteArray := prog_14_method_95_code
def yX12_strikes : MethodName := ⟨RX12, "strikes", "()V"⟩
abbrev cX12_isHummed : ByteArray := prog_14_method_96_code
def yX12_isHummed : MethodName := ⟨RX12, "isHummed", "(I)Z"⟩
abbrev cX12_isThief : ByteArray := prog_14_method_97_code
def yX12_isThief : MethodName := ⟨RX12, "isThief", "(I)Z"⟩
abbrev cX12_thieves : ByteArray := prog_14_method_98_code
def yX12_thieves : MethodName := ⟨RX12, "thieves", "()I"⟩
abbrev cX12_common : ByteArray := prog_14_method_99_code
def yX12_common : MethodName := ⟨RX12, "common", "(JJ)J"⟩
abbrev cX12_odds : ByteArray := prog_14_method_100_code
def yX12_odds : MethodName := ⟨RX12, "odds", "(II)I"⟩
abbrev cX12_isGang : ByteArray := prog_14_method_101_code
def yX12_isGang : MethodName := ⟨RX12, "isGang", "(I)Z"⟩
abbrev cX12_bitsOf : ByteArray := prog_14_method_102_code
def yX12_bitsOf : MethodName := ⟨RX12, "bitsOf", "(I)I"⟩
abbrev cX12_gang : ByteArray := prog_14_method_103_code
def yX12_gang : MethodName := ⟨RX12, "gang", "()I"⟩
abbrev cX12_rows : ByteArray := prog_14_method_104_code
def yX12_rows : MethodName := ⟨RX12, "rows", "(IIIII)V"⟩
abbrev cX12_isRound : ByteArray := prog_14_method_105_code
def yX12_isRound : MethodName := ⟨RX12, "isRound", "(II)Z"⟩
abbrev cX12_round : ByteArray := prog_14_method_106_code
def yX12_round : MethodName := ⟨RX12, "round", "(IIII)I"⟩
abbrev cX12_entry : ByteArray := prog_14_method_107_code
def yX12_entry : MethodName := ⟨RX12, "entry", "(IIIII)I"⟩
abbrev cX12_hasOf : ByteArray := prog_14_method_108_code
def yX12_hasOf : MethodName := ⟨RX12, "hasOf", "(II)I"⟩
abbrev cX12_run : ByteArray := prog_14_method_109_code
def yX12_run : MethodName := ⟨RX12, "run", "(II)I"⟩
abbrev cX12_pay : ByteArray := prog_14_method_110_code
def yX12_pay : MethodName := ⟨RX12, "pay", "(I)I"⟩
abbrev cX12_whole : ByteArray := prog_14_method_111_code
def yX12_whole : MethodName := ⟨RX12, "whole", "(III)J"⟩
abbrev cX12_keep : ByteArray := prog_14_method_112_code
def yX12_keep : MethodName := ⟨RX12, "keep", "()I"⟩
abbrev cX12_back : ByteArray := prog_14_method_113_code
def yX12_back : MethodName := ⟨RX12, "back", "()I"⟩
abbrev cX12_count : ByteArray := prog_14_method_114_code
def yX12_count : MethodName := ⟨RX12, "count", "(I)I"⟩
def RJ6 : String := "java/lang/Integer"
abbrev cJ6_bitCount_0f7a4 : ByteArray := prog_20_method_49_code
def yJ6_bitCount_0f7a4 : MethodName := ⟨RJ6, "bitCount", "(I)I"⟩
def RJ13 : String := "java/lang/Long"
abbrev cJ13_bitCount_95d88 : ByteArray := prog_21_method_50_code
def yJ13_bitCount_95d88 : MethodName := ⟨RJ13, "bitCount", "(J)I"⟩
def RJ0 : String := "java/lang/String"
abbrev cJ0_length_8abf5 : ByteArray := prog_24_method_54_code
def yJ0_length_8abf5 : MethodName := ⟨RJ0, "length", "()I"⟩
abbrev cJ0_charAt_5068e : ByteArray := prog_24_method_56_code
def yJ0_charAt_5068e : MethodName := ⟨RJ0, "charAt", "(I)C"⟩
abbrev cJ0_coder_7d493 : ByteArray := prog_24_method_152_code
def yJ0_coder_7d493 : MethodName := ⟨RJ0, "coder", "()B"⟩
abbrev cJ0_isLatin1_aae02 : ByteArray := prog_24_method_154_code
def yJ0_isLatin1_aae02 : MethodName := ⟨RJ0, "isLatin1", "()Z"⟩
abbrev cJ0_checkIndex_df160 : ByteArray := prog_24_method_155_code
def yJ0_checkIndex_df160 : MethodName := ⟨RJ0, "checkIndex", "(II)V"⟩
def RJ1 : String := "java/lang/StringLatin1"
abbrev cJ1_charAt_3b067 : ByteArray := prog_25_method_2_code
def yJ1_charAt_3b067 : MethodName := ⟨RJ1, "charAt", "([BI)C"⟩
def RJ7 : String := "java/util/Arrays"
abbrev cJ7_fill_53178 : ByteArray := prog_31_method_103_code
def yJ7_fill_53178 : MethodName := ⟨RJ7, "fill", "([II)V"⟩
def RJ3 : String := "jdk/internal/util/Preconditions"
abbrev cJ3_checkIndex_8e157 : ByteArray := prog_33_method_11_code
def yJ3_checkIndex_8e157 : MethodName := ⟨RJ3, "checkIndex", "(IILjava/util/function/BiFunction;)I"⟩
def RL : String := "RansomHymnLaw"
abbrev cL_look : ByteArray := method_3_code
def yL_look : MethodName := ⟨RL, "look", "(LRansomHymn;II[J)I"⟩
abbrev cL_law : ByteArray := code
def yL_law : MethodName := ⟨RL, "law", "([I)Z"⟩
abbrev vwCl : List vw_C := [(RX0, TX0, 10), (RX1, TX1, 11), (RX2, TX2, 10), (RX3, TX3, 2), (RX4, TX4, 19), (RX5, TX5, 6), (RX6, TX6, 2), (RX7, TX7, 6), (RX8, TX8, 4), (RX9, TX9, 9), (RX10, TX10, 13), (RX11, TX11, 15), (RX12, TX12, 69)]
def xgt : List Cond := lw_tbl.filter goodWord
theorem xgt_good : ∀ w ∈ xgt, ((w.onTables && w.keeps) = true ∨ ∃ ty, w = .arrayClass ty) := fun w h => good_of_word (List.mem_filter.mp h).2
theorem xgt_in : ∀ w ∈ xgt, w ∈ lw_tbl := fun w h => (List.mem_filter.mp h).1
end
section
/-! a good word of the tables, by its place in its piece -/
theorem wm_1 {w : Cond} (j : Nat) (h : tables_1_1[j]? = some w) (g : goodWord w = true) : w ∈ xgt := List.mem_filter.mpr ⟨List.mem_append_right _ (wt_1 w (List.mem_of_getElem? h)), g⟩
theorem wm_2 {w : Cond} (j : Nat) (h : tables_1_2[j]? = some w) (g : goodWord w = true) : w ∈ xgt := List.mem_filter.mpr ⟨List.mem_append_right _ (wt_2 w (List.mem_of_getElem? h)), g⟩
theorem wm_3 {w : Cond} (j : Nat) (h : tables_1_3[j]? = some w) (g : goodWord w = true) : w ∈ xgt := List.mem_filter.mpr ⟨List.mem_append_right _ (wt_3 w (List.mem_of_getElem? h)), g⟩
theorem wm_4 {w : Cond} (j : Nat) (h : tables_1_4[j]? = some w) (g : goodWord w = true) : w ∈ xgt := List.mem_filter.mpr ⟨List.mem_append_right _ (wt_4 w (List.mem_of_getElem? h)), g⟩
theorem wm_5 {w : Cond} (j : Nat) (h : tables_1_5[j]? = some w) (g : goodWord w = true) : w ∈ xgt := List.mem_filter.mpr ⟨List.mem_append_right _ (wt_5 w (List.mem_of_getElem? h)), g⟩
theorem wm_6 {w : Cond} (j : Nat) (h : tables_1_6[j]? = some w) (g : goodWord w = true) : w ∈ xgt := List.mem_filter.mpr ⟨List.mem_append_right _ (wt_6 w (List.mem_of_getElem? h)), g⟩
theorem wm_7 {w : Cond} (j : Nat) (h : tables_1_7[j]? = some w) (g : goodWord w = true) : w ∈ xgt := List.mem_filter.mpr ⟨List.mem_append_right _ (wt_7 w (List.mem_of_getElem? h)), g⟩
theorem wm_8 {w : Cond} (j : Nat) (h : tables_1_8[j]? = some w) (g : goodWord w = true) : w ∈ xgt := List.mem_filter.mpr ⟨List.mem_append_right _ (wt_8 w (List.mem_of_getElem? h)), g⟩
theorem wm_9 {w : Cond} (j : Nat) (h : tables_1_9[j]? = some w) (g : goodWord w = true) : w ∈ xgt := List.mem_filter.mpr ⟨List.mem_append_right _ (wt_9 w (List.mem_of_getElem? h)), g⟩
theorem ws_1 {q : MethodName × Nat} (j : Nat) (h : lw_privs_1[j]? = some q) (g : goodWord (Cond.selects q.1.cls q.1 q.1) = true) : Cond.selects q.1.cls q.1 q.1 ∈ xgt := List.mem_filter.mpr ⟨List.mem_append_left _ (List.mem_map.mpr ⟨q, List.mem_append_left _ (List.mem_of_getElem? h), rfl⟩), g⟩
theorem ws_2 {q : MethodName × Nat} (j : Nat) (h : lw_privs_2[j]? = some q) (g : goodWord (Cond.selects q.1.cls q.1 q.1) = true) : Cond.selects q.1.cls q.1 q.1 ∈ xgt := List.mem_filter.mpr ⟨List.mem_append_left _ (List.mem_map.mpr ⟨q, List.mem_append_right _ (List.mem_append_left _ (List.mem_of_getElem? h)), rfl⟩), g⟩
theorem ws_3 {q : MethodName × Nat} (j : Nat) (h : lw_privs_3[j]? = some q) (g : goodWord (Cond.selects q.1.cls q.1 q.1) = true) : Cond.selects q.1.cls q.1 q.1 ∈ xgt := List.mem_filter.mpr ⟨List.mem_append_left _ (List.mem_map.mpr ⟨q, List.mem_append_right _ (List.mem_append_right _ (List.mem_append_left _ (List.mem_of_getElem? h))), rfl⟩), g⟩
theorem ws_4 {q : MethodName × Nat} (j : Nat) (h : lw_privs_4[j]? = some q) (g : goodWord (Cond.selects q.1.cls q.1 q.1) = true) : Cond.selects q.1.cls q.1 q.1 ∈ xgt := List.mem_filter.mpr ⟨List.mem_append_left _ (List.mem_map.mpr ⟨q, List.mem_append_right _ (List.mem_append_right _ (List.mem_append_right _ (List.mem_append_left _ (List.mem_of_getElem? h)))), rfl⟩), g⟩
theorem ws_5 {q : MethodName × Nat} (j : Nat) (h : lw_privs_5[j]? = some q) (g : goodWord (Cond.selects q.1.cls q.1 q.1) = true) : Cond.selects q.1.cls q.1 q.1 ∈ xgt := List.mem_filter.mpr ⟨List.mem_append_left _ (List.mem_map.mpr ⟨q, List.mem_append_right _ (List.mem_append_right _ (List.mem_append_right _ (List.mem_append_right _ (List.mem_append_left _ (List.mem_of_getElem? h))))), rfl⟩), g⟩
theorem ws_6 {q : MethodName × Nat} (j : Nat) (h : lw_privs_6[j]? = some q) (g : goodWord (Cond.selects q.1.cls q.1 q.1) = true) : Cond.selects q.1.cls q.1 q.1 ∈ xgt := List.mem_filter.mpr ⟨List.mem_append_left _ (List.mem_map.mpr ⟨q, List.mem_append_right _ (List.mem_append_right _ (List.mem_append_right _ (List.mem_append_right _ (List.mem_append_right _ (List.mem_append_left _ (List.mem_of_getElem? h)))))), rfl⟩), g⟩
theorem ws_7 {q : MethodName × Nat} (j : Nat) (h : lw_privs_7[j]? = some q) (g : goodWord (Cond.selects q.1.cls q.1 q.1) = true) : Cond.selects q.1.cls q.1 q.1 ∈ xgt := List.mem_filter.mpr ⟨List.mem_append_left _ (List.mem_map.mpr ⟨q, List.mem_append_right _ (List.mem_append_right _ (List.mem_append_right _ (List.mem_append_right _ (List.mem_append_right _ (List.mem_append_right _ (List.mem_append_left _ (List.mem_of_getElem? h))))))), rfl⟩), g⟩
theorem ws_8 {q : MethodName × Nat} (j : Nat) (h : lw_privs_8[j]? = some q) (g : goodWord (Cond.selects q.1.cls q.1 q.1) = true) : Cond.selects q.1.cls q.1 q.1 ∈ xgt := List.mem_filter.mpr ⟨List.mem_append_left _ (List.mem_map.mpr ⟨q, List.mem_append_right _ (List.mem_append_right _ (List.mem_append_right _ (List.mem_append_right _ (List.mem_append_right _ (List.mem_append_right _ (List.mem_append_right _ (List.mem_of_getElem? h))))))), rfl⟩), g⟩
theorem xwm {w : Cond} (i : Nat) (h : lw_tbl[i]? = some w) (g : goodWord w = true) : w ∈ xgt := List.mem_filter.mpr ⟨List.mem_of_getElem? h, g⟩
end
section
/-! bytes: an instruction is read from the bytes that stand at its place: one theorem an opcode -/
theorem xb_at {c : ByteArray} {p : Nat} {x : UInt8} {tl : List UInt8} (h : c.data.toList.drop p = x :: tl) : ∃ hp : p < c.size, c[p]'hp = x := by
  cases c with
  | mk d =>
    have hl : p < d.toList.length := by
      rcases Nat.lt_or_ge p d.toList.length with h1 | h1
      · exact h1
      · rw [List.drop_eq_nil_of_le h1] at h
        cases h
    rw [List.drop_eq_getElem_cons hl] at h
    injection h with h1 h2
    exact ⟨hl, h1⟩
theorem xb_t {l : List UInt8} {p : Nat} {x : UInt8} {tl : List UInt8} (h : l.drop p = x :: tl) : l.drop (p + 1) = tl := by
  have hl : p < l.length := by
    rcases Nat.lt_or_ge p l.length with h1 | h1
    · exact h1
    · rw [List.drop_eq_nil_of_le h1] at h
      cases h
  rw [List.drop_eq_getElem_cons hl] at h
  injection h
theorem xb_r1 {c : ByteArray} {p : Nat} {x : UInt8} {tl : List UInt8} (h : c.data.toList.drop p = x :: tl) : (Reader.u1 : Reader DecodeError Nat).runAt c p = .ok (x.toNat, p + 1) := by
  obtain ⟨hp, e⟩ := xb_at h
  have k : (Reader.u1 : Reader DecodeError Nat).runAt c p = (dite (p < c.size) (fun h => (do set (p + 1); Pure.pure (c[p]'h).toNat : Reader DecodeError Nat)) (fun _ => throw (HasTruncated.truncated p))) c p := rfl
  rw [k, dif_pos hp, e]
  rfl
theorem xb_bind {c : ByteArray} {p p' : Nat} {α β : Type} {m : Reader DecodeError α} {v : α} (h : m.runAt c p = .ok (v, p')) (g : α → Reader DecodeError β) : (m >>= g).runAt c p = (g v).runAt c p' := by
  unfold Reader.runAt at h ⊢
  simp only [ReaderT.run_bind, StateT.run_bind]
  rw [h]
  rfl
theorem xb_map {c : ByteArray} {p p' : Nat} {α β : Type} {m : Reader DecodeError α} {v : α} (h : m.runAt c p = .ok (v, p')) (g : α → β) : (g <$> m).runAt c p = .ok (g v, p') := by
  unfold Reader.runAt at h ⊢
  simp only [ReaderT.run_map, StateT.run_map]
  rw [h]
  rfl
theorem xb_r2 {c : ByteArray} {p : Nat} {y z : UInt8} {tl : List UInt8} (h : c.data.toList.drop p = y :: z :: tl) : (Reader.u2 : Reader DecodeError Nat).runAt c p = .ok (y.toNat * 256 + z.toNat, p + 2) := by
  have k : (Reader.u2 : Reader DecodeError Nat) = (Reader.u1 >>= fun hi => Reader.u1 >>= fun lo => Pure.pure (hi * 256 + lo)) := rfl
  rw [k, xb_bind (xb_r1 h), xb_bind (xb_r1 (xb_t h))]
  rfl
theorem xb_dec {c : ByteArray} {pc n : Nat} {ins : Instr} (h : (Decoder.instr pc).runAt c pc = .ok (ins, pc + n)) : decode c pc = .ok (ins, n) := by
  have k : decode c pc = .ok (ins, pc + n - pc) := by
    unfold decode
    rw [h]
    rfl
  rw [k, Nat.add_sub_cancel_left]
section XBD
variable {c : ByteArray} {pc : Nat} {x y z : UInt8} {tl : List UInt8}
theorem xb_d0 {ins : Instr} (k : Nat) (h : c.data.toList.drop pc = x :: tl) (hk : x.toNat = k) (hi : ∃ f, Decoder.instr pc = Reader.u1 >>= f ∧ f k = Pure.pure ins) : decode c pc = .ok (ins, 1) := by
  obtain ⟨f, h1, h2⟩ := hi
  refine xb_dec ?_
  rw [h1, xb_bind (xb_r1 h), hk, h2]
  rfl
theorem xb_d1 {ins : Nat → Instr} (k : Nat) (h : c.data.toList.drop pc = x :: y :: tl) (hk : x.toNat = k) (hi : ∃ f, Decoder.instr pc = Reader.u1 >>= f ∧ f k = Reader.u1 >>= fun i => Pure.pure (ins i)) : decode c pc = .ok (ins y.toNat, 2) := by
  obtain ⟨f, h1, h2⟩ := hi
  refine xb_dec ?_
  rw [h1, xb_bind (xb_r1 h), hk, h2, xb_bind (xb_r1 (xb_t h))]
  rfl
theorem xb_s1 {ins : Int → Instr} (k : Nat) (h : c.data.toList.drop pc = x :: y :: tl) (hk : x.toNat = k) (hi : ∃ f, Decoder.instr pc = Reader.u1 >>= f ∧ f k = Reader.s1 >>= fun i => Pure.pure (ins i)) : decode c pc = .ok (ins (Reader.signed 8 y.toNat), 2) := by
  obtain ⟨f, h1, h2⟩ := hi
  refine xb_dec ?_
  rw [h1, xb_bind (xb_r1 h), hk, h2, xb_bind (show (Reader.s1 : Reader DecodeError Int).runAt c (pc + 1) = _ from xb_map (xb_r1 (xb_t h)) (Reader.signed 8))]
  rfl
theorem xb_d2 {ins : Nat → Instr} (k : Nat) (h : c.data.toList.drop pc = x :: y :: z :: tl) (hk : x.toNat = k) (hi : ∃ f, Decoder.instr pc = Reader.u1 >>= f ∧ f k = Reader.u2 >>= fun i => Pure.pure (ins i)) : decode c pc = .ok (ins (y.toNat * 256 + z.toNat), 3) := by
  obtain ⟨f, h1, h2⟩ := hi
  refine xb_dec ?_
  rw [h1, xb_bind (xb_r1 h), hk, h2, xb_bind (xb_r2 (xb_t h))]
  rfl
theorem xb_s2 {ins : Int → Instr} (k : Nat) (h : c.data.toList.drop pc = x :: y :: z :: tl) (hk : x.toNat = k) (hi : ∃ f, Decoder.instr pc = Reader.u1 >>= f ∧ f k = Reader.s2 >>= fun i => Pure.pure (ins i)) : decode c pc = .ok (ins (Reader.signed 16 (y.toNat * 256 + z.toNat)), 3) := by
  obtain ⟨f, h1, h2⟩ := hi
  refine xb_dec ?_
  rw [h1, xb_bind (xb_r1 h), hk, h2, xb_bind (show (Reader.s2 : Reader DecodeError Int).runAt c (pc + 1) = _ from xb_map (xb_r2 (xb_t h)) (Reader.signed 16))]
  rfl
theorem xb_132 (h : c.data.toList.drop pc = x :: y :: z :: tl) (hk : x.toNat = 132) : decode c pc = .ok (.iinc y.toNat (Reader.signed 8 z.toNat), 3) := by
  have hi : ∃ f, Decoder.instr pc = Reader.u1 >>= f ∧ f 132 = Reader.u1 >>= fun i => Reader.s1 >>= fun n => Pure.pure (.iinc i n) := ⟨_, rfl, rfl⟩
  obtain ⟨f, h1, h2⟩ := hi
  refine xb_dec ?_
  rw [h1, xb_bind (xb_r1 h), hk, h2, xb_bind (xb_r1 (xb_t h)), xb_bind (show (Reader.s1 : Reader DecodeError Int).runAt c (pc + 1 + 1) = _ from xb_map (xb_r1 (xb_t (xb_t h))) (Reader.signed 8))]
  rfl
theorem xb_2 (h : c.data.toList.drop pc = x :: tl) (hk : x.toNat = 2) : decode c pc = .ok (.iconst (-1), 1) := xb_d0 2 h hk ⟨_, rfl, rfl⟩
theorem xb_3 (h : c.data.toList.drop pc = x :: tl) (hk : x.toNat = 3) : decode c pc = .ok (.iconst (0), 1) := xb_d0 3 h hk ⟨_, rfl, rfl⟩
theorem xb_4 (h : c.data.toList.drop pc = x :: tl) (hk : x.toNat = 4) : decode c pc = .ok (.iconst (1), 1) := xb_d0 4 h hk ⟨_, rfl, rfl⟩
theorem xb_5 (h : c.data.toList.drop pc = x :: tl) (hk : x.toNat = 5) : decode c pc = .ok (.iconst (2), 1) := xb_d0 5 h hk ⟨_, rfl, rfl⟩
theorem xb_6 (h : c.data.toList.drop pc = x :: tl) (hk : x.toNat = 6) : decode c pc = .ok (.iconst (3), 1) := xb_d0 6 h hk ⟨_, rfl, rfl⟩
theorem xb_7 (h : c.data.toList.drop pc = x :: tl) (hk : x.toNat = 7) : decode c pc = .ok (.iconst (4), 1) := xb_d0 7 h hk ⟨_, rfl, rfl⟩
theorem xb_8 (h : c.data.toList.drop pc = x :: tl) (hk : x.toNat = 8) : decode c pc = .ok (.iconst (5), 1) := xb_d0 8 h hk ⟨_, rfl, rfl⟩
theorem xb_9 (h : c.data.toList.drop pc = x :: tl) (hk : x.toNat = 9) : decode c pc = .ok (.lconst 0, 1) := xb_d0 9 h hk ⟨_, rfl, rfl⟩
theorem xb_10 (h : c.data.toList.drop pc = x :: tl) (hk : x.toNat = 10) : decode c pc = .ok (.lconst 1, 1) := xb_d0 10 h hk ⟨_, rfl, rfl⟩
theorem xb_26 (h : c.data.toList.drop pc = x :: tl) (hk : x.toNat = 26) : decode c pc = .ok (.iload_n 0, 1) := xb_d0 26 h hk ⟨_, rfl, rfl⟩
theorem xb_59 (h : c.data.toList.drop pc = x :: tl) (hk : x.toNat = 59) : decode c pc = .ok (.istore_n 0, 1) := xb_d0 59 h hk ⟨_, rfl, rfl⟩
theorem xb_27 (h : c.data.toList.drop pc = x :: tl) (hk : x.toNat = 27) : decode c pc = .ok (.iload_n 1, 1) := xb_d0 27 h hk ⟨_, rfl, rfl⟩
theorem xb_60 (h : c.data.toList.drop pc = x :: tl) (hk : x.toNat = 60) : decode c pc = .ok (.istore_n 1, 1) := xb_d0 60 h hk ⟨_, rfl, rfl⟩
theorem xb_28 (h : c.data.toList.drop pc = x :: tl) (hk : x.toNat = 28) : decode c pc = .ok (.iload_n 2, 1) := xb_d0 28 h hk ⟨_, rfl, rfl⟩
theorem xb_61 (h : c.data.toList.drop pc = x :: tl) (hk : x.toNat = 61) : decode c pc = .ok (.istore_n 2, 1) := xb_d0 61 h hk ⟨_, rfl, rfl⟩
theorem xb_29 (h : c.data.toList.drop pc = x :: tl) (hk : x.toNat = 29) : decode c pc = .ok (.iload_n 3, 1) := xb_d0 29 h hk ⟨_, rfl, rfl⟩
theorem xb_62 (h : c.data.toList.drop pc = x :: tl) (hk : x.toNat = 62) : decode c pc = .ok (.istore_n 3, 1) := xb_d0 62 h hk ⟨_, rfl, rfl⟩
theorem xb_21 (h : c.data.toList.drop pc = x :: y :: tl) (hk : x.toNat = 21) : decode c pc = .ok (.iload y.toNat, 2) := xb_d1 (ins := fun i => .iload i) 21 h hk ⟨_, rfl, rfl⟩
theorem xb_54 (h : c.data.toList.drop pc = x :: y :: tl) (hk : x.toNat = 54) : decode c pc = .ok (.istore y.toNat, 2) := xb_d1 (ins := fun i => .istore i) 54 h hk ⟨_, rfl, rfl⟩
theorem xb_42 (h : c.data.toList.drop pc = x :: tl) (hk : x.toNat = 42) : decode c pc = .ok (.aload_n 0, 1) := xb_d0 42 h hk ⟨_, rfl, rfl⟩
theorem xb_75 (h : c.data.toList.drop pc = x :: tl) (hk : x.toNat = 75) : decode c pc = .ok (.astore_n 0, 1) := xb_d0 75 h hk ⟨_, rfl, rfl⟩
theorem xb_43 (h : c.data.toList.drop pc = x :: tl) (hk : x.toNat = 43) : decode c pc = .ok (.aload_n 1, 1) := xb_d0 43 h hk ⟨_, rfl, rfl⟩
theorem xb_76 (h : c.data.toList.drop pc = x :: tl) (hk : x.toNat = 76) : decode c pc = .ok (.astore_n 1, 1) := xb_d0 76 h hk ⟨_, rfl, rfl⟩
theorem xb_44 (h : c.data.toList.drop pc = x :: tl) (hk : x.toNat = 44) : decode c pc = .ok (.aload_n 2, 1) := xb_d0 44 h hk ⟨_, rfl, rfl⟩
theorem xb_77 (h : c.data.toList.drop pc = x :: tl) (hk : x.toNat = 77) : decode c pc = .ok (.astore_n 2, 1) := xb_d0 77 h hk ⟨_, rfl, rfl⟩
theorem xb_45 (h : c.data.toList.drop pc = x :: tl) (hk : x.toNat = 45) : decode c pc = .ok (.aload_n 3, 1) := xb_d0 45 h hk ⟨_, rfl, rfl⟩
theorem xb_78 (h : c.data.toList.drop pc = x :: tl) (hk : x.toNat = 78) : decode c pc = .ok (.astore_n 3, 1) := xb_d0 78 h hk ⟨_, rfl, rfl⟩
theorem xb_25 (h : c.data.toList.drop pc = x :: y :: tl) (hk : x.toNat = 25) : decode c pc = .ok (.aload y.toNat, 2) := xb_d1 (ins := fun i => .aload i) 25 h hk ⟨_, rfl, rfl⟩
theorem xb_58 (h : c.data.toList.drop pc = x :: y :: tl) (hk : x.toNat = 58) : decode c pc = .ok (.astore y.toNat, 2) := xb_d1 (ins := fun i => .astore i) 58 h hk ⟨_, rfl, rfl⟩
theorem xb_30 (h : c.data.toList.drop pc = x :: tl) (hk : x.toNat = 30) : decode c pc = .ok (.lload_n 0, 1) := xb_d0 30 h hk ⟨_, rfl, rfl⟩
theorem xb_63 (h : c.data.toList.drop pc = x :: tl) (hk : x.toNat = 63) : decode c pc = .ok (.lstore_n 0, 1) := xb_d0 63 h hk ⟨_, rfl, rfl⟩
theorem xb_31 (h : c.data.toList.drop pc = x :: tl) (hk : x.toNat = 31) : decode c pc = .ok (.lload_n 1, 1) := xb_d0 31 h hk ⟨_, rfl, rfl⟩
theorem xb_64 (h : c.data.toList.drop pc = x :: tl) (hk : x.toNat = 64) : decode c pc = .ok (.lstore_n 1, 1) := xb_d0 64 h hk ⟨_, rfl, rfl⟩
theorem xb_32 (h : c.data.toList.drop pc = x :: tl) (hk : x.toNat = 32) : decode c pc = .ok (.lload_n 2, 1) := xb_d0 32 h hk ⟨_, rfl, rfl⟩
theorem xb_65 (h : c.data.toList.drop pc = x :: tl) (hk : x.toNat = 65) : decode c pc = .ok (.lstore_n 2, 1) := xb_d0 65 h hk ⟨_, rfl, rfl⟩
theorem xb_33 (h : c.data.toList.drop pc = x :: tl) (hk : x.toNat = 33) : decode c pc = .ok (.lload_n 3, 1) := xb_d0 33 h hk ⟨_, rfl, rfl⟩
theorem xb_66 (h : c.data.toList.drop pc = x :: tl) (hk : x.toNat = 66) : decode c pc = .ok (.lstore_n 3, 1) := xb_d0 66 h hk ⟨_, rfl, rfl⟩
theorem xb_22 (h : c.data.toList.drop pc = x :: y :: tl) (hk : x.toNat = 22) : decode c pc = .ok (.lload y.toNat, 2) := xb_d1 (ins := fun i => .lload i) 22 h hk ⟨_, rfl, rfl⟩
theorem xb_55 (h : c.data.toList.drop pc = x :: y :: tl) (hk : x.toNat = 55) : decode c pc = .ok (.lstore y.toNat, 2) := xb_d1 (ins := fun i => .lstore i) 55 h hk ⟨_, rfl, rfl⟩
theorem xb_46 (h : c.data.toList.drop pc = x :: tl) (hk : x.toNat = 46) : decode c pc = .ok (.iaload, 1) := xb_d0 46 h hk ⟨_, rfl, rfl⟩
theorem xb_47 (h : c.data.toList.drop pc = x :: tl) (hk : x.toNat = 47) : decode c pc = .ok (.laload, 1) := xb_d0 47 h hk ⟨_, rfl, rfl⟩
theorem xb_50 (h : c.data.toList.drop pc = x :: tl) (hk : x.toNat = 50) : decode c pc = .ok (.aaload, 1) := xb_d0 50 h hk ⟨_, rfl, rfl⟩
theorem xb_51 (h : c.data.toList.drop pc = x :: tl) (hk : x.toNat = 51) : decode c pc = .ok (.baload, 1) := xb_d0 51 h hk ⟨_, rfl, rfl⟩
theorem xb_79 (h : c.data.toList.drop pc = x :: tl) (hk : x.toNat = 79) : decode c pc = .ok (.iastore, 1) := xb_d0 79 h hk ⟨_, rfl, rfl⟩
theorem xb_80 (h : c.data.toList.drop pc = x :: tl) (hk : x.toNat = 80) : decode c pc = .ok (.lastore, 1) := xb_d0 80 h hk ⟨_, rfl, rfl⟩
theorem xb_84 (h : c.data.toList.drop pc = x :: tl) (hk : x.toNat = 84) : decode c pc = .ok (.bastore, 1) := xb_d0 84 h hk ⟨_, rfl, rfl⟩
theorem xb_87 (h : c.data.toList.drop pc = x :: tl) (hk : x.toNat = 87) : decode c pc = .ok (.pop, 1) := xb_d0 87 h hk ⟨_, rfl, rfl⟩
theorem xb_88 (h : c.data.toList.drop pc = x :: tl) (hk : x.toNat = 88) : decode c pc = .ok (.pop2, 1) := xb_d0 88 h hk ⟨_, rfl, rfl⟩
theorem xb_89 (h : c.data.toList.drop pc = x :: tl) (hk : x.toNat = 89) : decode c pc = .ok (.dup, 1) := xb_d0 89 h hk ⟨_, rfl, rfl⟩
theorem xb_92 (h : c.data.toList.drop pc = x :: tl) (hk : x.toNat = 92) : decode c pc = .ok (.dup2, 1) := xb_d0 92 h hk ⟨_, rfl, rfl⟩
theorem xb_96 (h : c.data.toList.drop pc = x :: tl) (hk : x.toNat = 96) : decode c pc = .ok (.iadd, 1) := xb_d0 96 h hk ⟨_, rfl, rfl⟩
theorem xb_97 (h : c.data.toList.drop pc = x :: tl) (hk : x.toNat = 97) : decode c pc = .ok (.ladd, 1) := xb_d0 97 h hk ⟨_, rfl, rfl⟩
theorem xb_100 (h : c.data.toList.drop pc = x :: tl) (hk : x.toNat = 100) : decode c pc = .ok (.isub, 1) := xb_d0 100 h hk ⟨_, rfl, rfl⟩
theorem xb_101 (h : c.data.toList.drop pc = x :: tl) (hk : x.toNat = 101) : decode c pc = .ok (.lsub, 1) := xb_d0 101 h hk ⟨_, rfl, rfl⟩
theorem xb_104 (h : c.data.toList.drop pc = x :: tl) (hk : x.toNat = 104) : decode c pc = .ok (.imul, 1) := xb_d0 104 h hk ⟨_, rfl, rfl⟩
theorem xb_105 (h : c.data.toList.drop pc = x :: tl) (hk : x.toNat = 105) : decode c pc = .ok (.lmul, 1) := xb_d0 105 h hk ⟨_, rfl, rfl⟩
theorem xb_108 (h : c.data.toList.drop pc = x :: tl) (hk : x.toNat = 108) : decode c pc = .ok (.idiv, 1) := xb_d0 108 h hk ⟨_, rfl, rfl⟩
theorem xb_109 (h : c.data.toList.drop pc = x :: tl) (hk : x.toNat = 109) : decode c pc = .ok (.ldiv, 1) := xb_d0 109 h hk ⟨_, rfl, rfl⟩
theorem xb_112 (h : c.data.toList.drop pc = x :: tl) (hk : x.toNat = 112) : decode c pc = .ok (.irem, 1) := xb_d0 112 h hk ⟨_, rfl, rfl⟩
theorem xb_113 (h : c.data.toList.drop pc = x :: tl) (hk : x.toNat = 113) : decode c pc = .ok (.lrem, 1) := xb_d0 113 h hk ⟨_, rfl, rfl⟩
theorem xb_117 (h : c.data.toList.drop pc = x :: tl) (hk : x.toNat = 117) : decode c pc = .ok (.lneg, 1) := xb_d0 117 h hk ⟨_, rfl, rfl⟩
theorem xb_120 (h : c.data.toList.drop pc = x :: tl) (hk : x.toNat = 120) : decode c pc = .ok (.ishl, 1) := xb_d0 120 h hk ⟨_, rfl, rfl⟩
theorem xb_121 (h : c.data.toList.drop pc = x :: tl) (hk : x.toNat = 121) : decode c pc = .ok (.lshl, 1) := xb_d0 121 h hk ⟨_, rfl, rfl⟩
theorem xb_122 (h : c.data.toList.drop pc = x :: tl) (hk : x.toNat = 122) : decode c pc = .ok (.ishr, 1) := xb_d0 122 h hk ⟨_, rfl, rfl⟩
theorem xb_124 (h : c.data.toList.drop pc = x :: tl) (hk : x.toNat = 124) : decode c pc = .ok (.iushr, 1) := xb_d0 124 h hk ⟨_, rfl, rfl⟩
theorem xb_125 (h : c.data.toList.drop pc = x :: tl) (hk : x.toNat = 125) : decode c pc = .ok (.lushr, 1) := xb_d0 125 h hk ⟨_, rfl, rfl⟩
theorem xb_126 (h : c.data.toList.drop pc = x :: tl) (hk : x.toNat = 126) : decode c pc = .ok (.iand, 1) := xb_d0 126 h hk ⟨_, rfl, rfl⟩
theorem xb_127 (h : c.data.toList.drop pc = x :: tl) (hk : x.toNat = 127) : decode c pc = .ok (.land, 1) := xb_d0 127 h hk ⟨_, rfl, rfl⟩
theorem xb_128 (h : c.data.toList.drop pc = x :: tl) (hk : x.toNat = 128) : decode c pc = .ok (.ior, 1) := xb_d0 128 h hk ⟨_, rfl, rfl⟩
theorem xb_129 (h : c.data.toList.drop pc = x :: tl) (hk : x.toNat = 129) : decode c pc = .ok (.lor, 1) := xb_d0 129 h hk ⟨_, rfl, rfl⟩
theorem xb_130 (h : c.data.toList.drop pc = x :: tl) (hk : x.toNat = 130) : decode c pc = .ok (.ixor, 1) := xb_d0 130 h hk ⟨_, rfl, rfl⟩
theorem xb_131 (h : c.data.toList.drop pc = x :: tl) (hk : x.toNat = 131) : decode c pc = .ok (.lxor, 1) := xb_d0 131 h hk ⟨_, rfl, rfl⟩
theorem xb_133 (h : c.data.toList.drop pc = x :: tl) (hk : x.toNat = 133) : decode c pc = .ok (.i2l, 1) := xb_d0 133 h hk ⟨_, rfl, rfl⟩
theorem xb_136 (h : c.data.toList.drop pc = x :: tl) (hk : x.toNat = 136) : decode c pc = .ok (.l2i, 1) := xb_d0 136 h hk ⟨_, rfl, rfl⟩
theorem xb_145 (h : c.data.toList.drop pc = x :: tl) (hk : x.toNat = 145) : decode c pc = .ok (.i2b, 1) := xb_d0 145 h hk ⟨_, rfl, rfl⟩
theorem xb_146 (h : c.data.toList.drop pc = x :: tl) (hk : x.toNat = 146) : decode c pc = .ok (.i2c, 1) := xb_d0 146 h hk ⟨_, rfl, rfl⟩
theorem xb_148 (h : c.data.toList.drop pc = x :: tl) (hk : x.toNat = 148) : decode c pc = .ok (.lcmp, 1) := xb_d0 148 h hk ⟨_, rfl, rfl⟩
theorem xb_172 (h : c.data.toList.drop pc = x :: tl) (hk : x.toNat = 172) : decode c pc = .ok (.ireturn, 1) := xb_d0 172 h hk ⟨_, rfl, rfl⟩
theorem xb_173 (h : c.data.toList.drop pc = x :: tl) (hk : x.toNat = 173) : decode c pc = .ok (.lreturn, 1) := xb_d0 173 h hk ⟨_, rfl, rfl⟩
theorem xb_177 (h : c.data.toList.drop pc = x :: tl) (hk : x.toNat = 177) : decode c pc = .ok (.return_, 1) := xb_d0 177 h hk ⟨_, rfl, rfl⟩
theorem xb_190 (h : c.data.toList.drop pc = x :: tl) (hk : x.toNat = 190) : decode c pc = .ok (.arraylength, 1) := xb_d0 190 h hk ⟨_, rfl, rfl⟩
theorem xb_16 (h : c.data.toList.drop pc = x :: y :: tl) (hk : x.toNat = 16) : decode c pc = .ok (.bipush (Reader.signed 8 y.toNat), 2) := xb_s1 (ins := fun i => .bipush i) 16 h hk ⟨_, rfl, rfl⟩
theorem xb_20 (h : c.data.toList.drop pc = x :: y :: z :: tl) (hk : x.toNat = 20) : decode c pc = .ok (.ldc2_w (y.toNat * 256 + z.toNat), 3) := xb_d2 (ins := fun i => .ldc2_w i) 20 h hk ⟨_, rfl, rfl⟩
theorem xb_153 (h : c.data.toList.drop pc = x :: y :: z :: tl) (hk : x.toNat = 153) : decode c pc = .ok (.ifCond .eq (Reader.signed 16 (y.toNat * 256 + z.toNat)), 3) := xb_s2 (ins := fun i => .ifCond .eq i) 153 h hk ⟨_, rfl, rfl⟩
theorem xb_159 (h : c.data.toList.drop pc = x :: y :: z :: tl) (hk : x.toNat = 159) : decode c pc = .ok (.if_icmp .eq (Reader.signed 16 (y.toNat * 256 + z.toNat)), 3) := xb_s2 (ins := fun i => .if_icmp .eq i) 159 h hk ⟨_, rfl, rfl⟩
theorem xb_154 (h : c.data.toList.drop pc = x :: y :: z :: tl) (hk : x.toNat = 154) : decode c pc = .ok (.ifCond .ne (Reader.signed 16 (y.toNat * 256 + z.toNat)), 3) := xb_s2 (ins := fun i => .ifCond .ne i) 154 h hk ⟨_, rfl, rfl⟩
theorem xb_160 (h : c.data.toList.drop pc = x :: y :: z :: tl) (hk : x.toNat = 160) : decode c pc = .ok (.if_icmp .ne (Reader.signed 16 (y.toNat * 256 + z.toNat)), 3) := xb_s2 (ins := fun i => .if_icmp .ne i) 160 h hk ⟨_, rfl, rfl⟩
theorem xb_155 (h : c.data.toList.drop pc = x :: y :: z :: tl) (hk : x.toNat = 155) : decode c pc = .ok (.ifCond .lt (Reader.signed 16 (y.toNat * 256 + z.toNat)), 3) := xb_s2 (ins := fun i => .ifCond .lt i) 155 h hk ⟨_, rfl, rfl⟩
theorem xb_161 (h : c.data.toList.drop pc = x :: y :: z :: tl) (hk : x.toNat = 161) : decode c pc = .ok (.if_icmp .lt (Reader.signed 16 (y.toNat * 256 + z.toNat)), 3) := xb_s2 (ins := fun i => .if_icmp .lt i) 161 h hk ⟨_, rfl, rfl⟩
theorem xb_156 (h : c.data.toList.drop pc = x :: y :: z :: tl) (hk : x.toNat = 156) : decode c pc = .ok (.ifCond .ge (Reader.signed 16 (y.toNat * 256 + z.toNat)), 3) := xb_s2 (ins := fun i => .ifCond .ge i) 156 h hk ⟨_, rfl, rfl⟩
theorem xb_162 (h : c.data.toList.drop pc = x :: y :: z :: tl) (hk : x.toNat = 162) : decode c pc = .ok (.if_icmp .ge (Reader.signed 16 (y.toNat * 256 + z.toNat)), 3) := xb_s2 (ins := fun i => .if_icmp .ge i) 162 h hk ⟨_, rfl, rfl⟩
theorem xb_157 (h : c.data.toList.drop pc = x :: y :: z :: tl) (hk : x.toNat = 157) : decode c pc = .ok (.ifCond .gt (Reader.signed 16 (y.toNat * 256 + z.toNat)), 3) := xb_s2 (ins := fun i => .ifCond .gt i) 157 h hk ⟨_, rfl, rfl⟩
theorem xb_163 (h : c.data.toList.drop pc = x :: y :: z :: tl) (hk : x.toNat = 163) : decode c pc = .ok (.if_icmp .gt (Reader.signed 16 (y.toNat * 256 + z.toNat)), 3) := xb_s2 (ins := fun i => .if_icmp .gt i) 163 h hk ⟨_, rfl, rfl⟩
theorem xb_158 (h : c.data.toList.drop pc = x :: y :: z :: tl) (hk : x.toNat = 158) : decode c pc = .ok (.ifCond .le (Reader.signed 16 (y.toNat * 256 + z.toNat)), 3) := xb_s2 (ins := fun i => .ifCond .le i) 158 h hk ⟨_, rfl, rfl⟩
theorem xb_164 (h : c.data.toList.drop pc = x :: y :: z :: tl) (hk : x.toNat = 164) : decode c pc = .ok (.if_icmp .le (Reader.signed 16 (y.toNat * 256 + z.toNat)), 3) := xb_s2 (ins := fun i => .if_icmp .le i) 164 h hk ⟨_, rfl, rfl⟩
theorem xb_167 (h : c.data.toList.drop pc = x :: y :: z :: tl) (hk : x.toNat = 167) : decode c pc = .ok (.goto (Reader.signed 16 (y.toNat * 256 + z.toNat)), 3) := xb_s2 (ins := fun i => .goto i) 167 h hk ⟨_, rfl, rfl⟩
theorem xb_178 (h : c.data.toList.drop pc = x :: y :: z :: tl) (hk : x.toNat = 178) : decode c pc = .ok (.getstatic (y.toNat * 256 + z.toNat), 3) := xb_d2 (ins := fun i => .getstatic i) 178 h hk ⟨_, rfl, rfl⟩
theorem xb_180 (h : c.data.toList.drop pc = x :: y :: z :: tl) (hk : x.toNat = 180) : decode c pc = .ok (.getfield (y.toNat * 256 + z.toNat), 3) := xb_d2 (ins := fun i => .getfield i) 180 h hk ⟨_, rfl, rfl⟩
theorem xb_181 (h : c.data.toList.drop pc = x :: y :: z :: tl) (hk : x.toNat = 181) : decode c pc = .ok (.putfield (y.toNat * 256 + z.toNat), 3) := xb_d2 (ins := fun i => .putfield i) 181 h hk ⟨_, rfl, rfl⟩
theorem xb_182 (h : c.data.toList.drop pc = x :: y :: z :: tl) (hk : x.toNat = 182) : decode c pc = .ok (.invokevirtual (y.toNat * 256 + z.toNat), 3) := xb_d2 (ins := fun i => .invokevirtual i) 182 h hk ⟨_, rfl, rfl⟩
theorem xb_183 (h : c.data.toList.drop pc = x :: y :: z :: tl) (hk : x.toNat = 183) : decode c pc = .ok (.invokespecial (y.toNat * 256 + z.toNat), 3) := xb_d2 (ins := fun i => .invokespecial i) 183 h hk ⟨_, rfl, rfl⟩
theorem xb_184 (h : c.data.toList.drop pc = x :: y :: z :: tl) (hk : x.toNat = 184) : decode c pc = .ok (.invokestatic (y.toNat * 256 + z.toNat), 3) := xb_d2 (ins := fun i => .invokestatic i) 184 h hk ⟨_, rfl, rfl⟩
theorem xb_187 (h : c.data.toList.drop pc = x :: y :: z :: tl) (hk : x.toNat = 187) : decode c pc = .ok (.new (y.toNat * 256 + z.toNat), 3) := xb_d2 (ins := fun i => .new i) 187 h hk ⟨_, rfl, rfl⟩
end XBD
/-- the bytes at pc: an opcode and an index of two bytes -/
def xhb (c : ByteArray) (pc k j : Nat) : Bool := match c.data.toList.drop pc with
  | x :: y :: z :: _ => Nat.beq x.toNat k && Nat.beq (y.toNat * 256 + z.toNat) j
  | _ => false
theorem xhb_ok {c : ByteArray} {pc k j : Nat} (h : xhb c pc k j = true) : ∃ (x y z : UInt8) (tl : List UInt8), c.data.toList.drop pc = x :: y :: z :: tl ∧ x.toNat = k ∧ y.toNat * 256 + z.toNat = j := by
  unfold xhb at h
  split at h
  · rename_i x y z tl e
    simp only [Bool.and_eq_true, Nat.beq_eq] at h
    exact ⟨x, y, z, tl, e, h.1, h.2⟩
  · cases h
theorem xh_getfield {c : ByteArray} {pc j : Nat} (h : xhb c pc 180 j = true) : decode c pc = .ok (.getfield j, 3) := by
  obtain ⟨x, y, z, tl, h1, h2, rfl⟩ := xhb_ok h
  exact xb_180 h1 h2
theorem xh_putfield {c : ByteArray} {pc j : Nat} (h : xhb c pc 181 j = true) : decode c pc = .ok (.putfield j, 3) := by
  obtain ⟨x, y, z, tl, h1, h2, rfl⟩ := xhb_ok h
  exact xb_181 h1 h2
theorem xh_invokevirtual {c : ByteArray} {pc j : Nat} (h : xhb c pc 182 j = true) : decode c pc = .ok (.invokevirtual j, 3) := by
  obtain ⟨x, y, z, tl, h1, h2, rfl⟩ := xhb_ok h
  exact xb_182 h1 h2
theorem xh_invokespecial {c : ByteArray} {pc j : Nat} (h : xhb c pc 183 j = true) : decode c pc = .ok (.invokespecial j, 3) := by
  obtain ⟨x, y, z, tl, h1, h2, rfl⟩ := xhb_ok h
  exact xb_183 h1 h2
theorem xh_invokestatic {c : ByteArray} {pc j : Nat} (h : xhb c pc 184 j = true) : decode c pc = .ok (.invokestatic j, 3) := by
  obtain ⟨x, y, z, tl, h1, h2, rfl⟩ := xhb_ok h
  exact xb_184 h1 h2
theorem xh_new {c : ByteArray} {pc j : Nat} (h : xhb c pc 187 j = true) : decode c pc = .ok (.new j, 3) := by
  obtain ⟨x, y, z, tl, h1, h2, rfl⟩ := xhb_ok h
  exact xb_187 h1 h2
theorem xh_getstatic {c : ByteArray} {pc j : Nat} (h : xhb c pc 178 j = true) : decode c pc = .ok (.getstatic j, 3) := by
  obtain ⟨x, y, z, tl, h1, h2, rfl⟩ := xhb_ok h
  exact xb_178 h1 h2
theorem xh_ldc2_w {c : ByteArray} {pc j : Nat} (h : xhb c pc 20 j = true) : decode c pc = .ok (.ldc2_w j, 3) := by
  obtain ⟨x, y, z, tl, h1, h2, rfl⟩ := xhb_ok h
  exact xb_20 h1 h2
end
section
theorem dX11_init_1 : decode cX11_init 1 = .ok (.invokespecial 3, 3) := xh_invokespecial (by decide +kernel)
theorem dX11_init_5 : decode cX11_init 5 = .ok (.sipush 800, 3) := by decide +kernel
theorem dX11_init_8 : decode cX11_init 8 = .ok (.newarray .byte, 2) := by decide +kernel
theorem dX11_init_10 : decode cX11_init 10 = .ok (.putfield 9, 3) := xh_putfield (by decide +kernel)
theorem dX11_init_14 : decode cX11_init 14 = .ok (.new 13, 3) := xh_new (by decide +kernel)
theorem dX11_init_18 : decode cX11_init 18 = .ok (.invokespecial 15, 3) := xh_invokespecial (by decide +kernel)
theorem dX11_init_21 : decode cX11_init 21 = .ok (.putfield 16, 3) := xh_putfield (by decide +kernel)
theorem dX11_init_25 : decode cX11_init 25 = .ok (.new 13, 3) := xh_new (by decide +kernel)
theorem dX11_init_29 : decode cX11_init 29 = .ok (.invokespecial 15, 3) := xh_invokespecial (by decide +kernel)
theorem dX11_init_32 : decode cX11_init 32 = .ok (.putfield 20, 3) := xh_putfield (by decide +kernel)
theorem dX11_init_36 : decode cX11_init 36 = .ok (.new 23, 3) := xh_new (by decide +kernel)
theorem dX11_init_40 : decode cX11_init 40 = .ok (.new 25, 3) := xh_new (by decide +kernel)
theorem dX11_init_48 : decode cX11_init 48 = .ok (.invokespecial 27, 3) := xh_invokespecial (by decide +kernel)
theorem dX11_init_55 : decode cX11_init 55 = .ok (.invokespecial 30, 3) := xh_invokespecial (by decide +kernel)
theorem dX11_init_58 : decode cX11_init 58 = .ok (.putfield 33, 3) := xh_putfield (by decide +kernel)
theorem dX11_init_62 : decode cX11_init 62 = .ok (.new 37, 3) := xh_new (by decide +kernel)
theorem dX11_init_66 : decode cX11_init 66 = .ok (.invokespecial 39, 3) := xh_invokespecial (by decide +kernel)
theorem dX11_init_69 : decode cX11_init 69 = .ok (.putfield 40, 3) := xh_putfield (by decide +kernel)
theorem dX11_init_73 : decode cX11_init 73 = .ok (.new 37, 3) := xh_new (by decide +kernel)
theorem dX11_init_77 : decode cX11_init 77 = .ok (.invokespecial 39, 3) := xh_invokespecial (by decide +kernel)
theorem dX11_init_80 : decode cX11_init 80 = .ok (.putfield 44, 3) := xh_putfield (by decide +kernel)
theorem dX11_init_84 : decode cX11_init 84 = .ok (.new 47, 3) := xh_new (by decide +kernel)
theorem dX11_init_88 : decode cX11_init 88 = .ok (.invokespecial 49, 3) := xh_invokespecial (by decide +kernel)
theorem dX11_init_91 : decode cX11_init 91 = .ok (.putfield 50, 3) := xh_putfield (by decide +kernel)
theorem dX11_init_95 : decode cX11_init 95 = .ok (.new 54, 3) := xh_new (by decide +kernel)
theorem dX11_init_107 : decode cX11_init 107 = .ok (.invokespecial 56, 3) := xh_invokespecial (by decide +kernel)
theorem dX11_init_110 : decode cX11_init 110 = .ok (.putfield 59, 3) := xh_putfield (by decide +kernel)
theorem dX11_init_114 : decode cX11_init 114 = .ok (.new 63, 3) := xh_new (by decide +kernel)
theorem dX11_init_130 : decode cX11_init 130 = .ok (.invokespecial 65, 3) := xh_invokespecial (by decide +kernel)
theorem dX11_init_133 : decode cX11_init 133 = .ok (.putfield 68, 3) := xh_putfield (by decide +kernel)
theorem dX11_init_137 : decode cX11_init 137 = .ok (.new 72, 3) := xh_new (by decide +kernel)
theorem dX11_init_153 : decode cX11_init 153 = .ok (.invokespecial 74, 3) := xh_invokespecial (by decide +kernel)
theorem dX11_init_156 : decode cX11_init 156 = .ok (.putfield 75, 3) := xh_putfield (by decide +kernel)
theorem dX11_init_160 : decode cX11_init 160 = .ok (.new 79, 3) := xh_new (by decide +kernel)
theorem dX11_init_176 : decode cX11_init 176 = .ok (.invokespecial 81, 3) := xh_invokespecial (by decide +kernel)
theorem dX11_init_179 : decode cX11_init 179 = .ok (.putfield 82, 3) := xh_putfield (by decide +kernel)
theorem dX11_init_184 : decode cX11_init 184 = .ok (.putfield 86, 3) := xh_putfield (by decide +kernel)
theorem dX11_init_189 : decode cX11_init 189 = .ok (.putfield 90, 3) := xh_putfield (by decide +kernel)
theorem dX11_init_194 : decode cX11_init 194 = .ok (.putfield 93, 3) := xh_putfield (by decide +kernel)
theorem dX11_init_199 : decode cX11_init 199 = .ok (.putfield 96, 3) := xh_putfield (by decide +kernel)
theorem dX11_init_210 : decode cX11_init 210 = .ok (.invokevirtual 100, 3) := xh_invokevirtual (by decide +kernel)
theorem dX11_back_17 : decode cX11_back 17 = .ok (.invokevirtual 354, 3) := xh_invokevirtual (by decide +kernel)
theorem dX11_back_25 : decode cX11_back 25 = .ok (.putfield 124, 3) := xh_putfield (by decide +kernel)
theorem dX11_bar_8 : decode cX11_bar 8 = .ok (.invokevirtual 145, 3) := xh_invokevirtual (by decide +kernel)
theorem dX11_bar_48 : decode cX11_bar 48 = .ok (.invokestatic 202, 3) := xh_invokestatic (by decide +kernel)
theorem dX11_bar_79 : decode cX11_bar 79 = .ok (.invokevirtual 213, 3) := xh_invokevirtual (by decide +kernel)
theorem dX11_best_5 : decode cX11_best 5 = .ok (.sipush 999, 3) := by decide +kernel
theorem dX11_best_26 : decode cX11_best 26 = .ok (.invokevirtual 267, 3) := xh_invokevirtual (by decide +kernel)
theorem dX11_best_34 : decode cX11_best 34 = .ok (.invokevirtual 270, 3) := xh_invokevirtual (by decide +kernel)
theorem dX11_best_51 : decode cX11_best 51 = .ok (.invokevirtual 273, 3) := xh_invokevirtual (by decide +kernel)
theorem dX11_bids_8 : decode cX11_bids 8 = .ok (.invokevirtual 145, 3) := xh_invokevirtual (by decide +kernel)
theorem dX11_bids_22 : decode cX11_bids 22 = .ok (.invokevirtual 145, 3) := xh_invokevirtual (by decide +kernel)
theorem dX11_bids_45 : decode cX11_bids 45 = .ok (.invokevirtual 224, 3) := xh_invokevirtual (by decide +kernel)
theorem dX11_chosen_5 : decode cX11_chosen 5 = .ok (.sipush 999, 3) := by decide +kernel
theorem dX11_chosen_17 : decode cX11_chosen 17 = .ok (.invokevirtual 195, 3) := xh_invokevirtual (by decide +kernel)
theorem dX11_chosen_29 : decode cX11_chosen 29 = .ok (.invokevirtual 267, 3) := xh_invokevirtual (by decide +kernel)
theorem dX11_chosen_37 : decode cX11_chosen 37 = .ok (.invokevirtual 276, 3) := xh_invokevirtual (by decide +kernel)
theorem dX11_chosen_49 : decode cX11_chosen 49 = .ok (.invokestatic 202, 3) := xh_invokestatic (by decide +kernel)
theorem dX11_count_1 : decode cX11_count 1 = .ok (.tableswitch 174 0 11 #[63, 74, 85, 96, 107, 118, 126, 134, 142, 150, 155, 166], 63) := by decide +kernel
theorem dX11_count_152 : decode cX11_count 152 = .ok (.invokevirtual 302, 3) := xh_invokevirtual (by decide +kernel)
theorem dX11_count_163 : decode cX11_count 163 = .ok (.invokestatic 216, 3) := xh_invokestatic (by decide +kernel)
theorem dX11_count_171 : decode cX11_count 171 = .ok (.invokevirtual 364, 3) := xh_invokevirtual (by decide +kernel)
theorem dX11_crackBoys_21 : decode cX11_crackBoys 21 = .ok (.invokevirtual 175, 3) := xh_invokevirtual (by decide +kernel)
theorem dX11_crackBoys_32 : decode cX11_crackBoys 32 = .ok (.invokevirtual 172, 3) := xh_invokevirtual (by decide +kernel)
theorem dX11_crackBoys_42 : decode cX11_crackBoys 42 = .ok (.invokevirtual 370, 3) := xh_invokevirtual (by decide +kernel)
theorem dX11_crackBoys_62 : decode cX11_crackBoys 62 = .ok (.invokevirtual 230, 3) := xh_invokevirtual (by decide +kernel)
theorem dX11_crackBoys_80 : decode cX11_crackBoys 80 = .ok (.putfield 325, 3) := xh_putfield (by decide +kernel)
theorem dX11_cracks_8 : decode cX11_cracks 8 = .ok (.invokevirtual 145, 3) := xh_invokevirtual (by decide +kernel)
theorem dX11_cracks_26 : decode cX11_cracks 26 = .ok (.invokevirtual 230, 3) := xh_invokevirtual (by decide +kernel)
theorem dX11_due_6 : decode cX11_due 6 = .ok (.invokevirtual 195, 3) := xh_invokevirtual (by decide +kernel)
theorem dX11_due_20 : decode cX11_due 20 = .ok (.invokevirtual 145, 3) := xh_invokevirtual (by decide +kernel)
theorem dX11_due_33 : decode cX11_due 33 = .ok (.invokevirtual 209, 3) := xh_invokevirtual (by decide +kernel)
theorem dX11_easter_5 : decode cX11_easter 5 = .ok (.invokevirtual 280, 3) := xh_invokevirtual (by decide +kernel)
theorem dX11_easter_18 : decode cX11_easter 18 = .ok (.invokevirtual 283, 3) := xh_invokevirtual (by decide +kernel)
theorem dX11_easter_72 : decode cX11_easter 72 = .ok (.putfield 239, 3) := xh_putfield (by decide +kernel)
theorem dX11_entry_6 : decode cX11_entry 6 = .ok (.invokevirtual 331, 3) := xh_invokevirtual (by decide +kernel)
theorem dX11_entry_31 : decode cX11_entry 31 = .ok (.invokestatic 202, 3) := xh_invokestatic (by decide +kernel)
theorem dX11_entry_37 : decode cX11_entry 37 = .ok (.invokevirtual 335, 3) := xh_invokevirtual (by decide +kernel)
theorem dX11_fault_1 : decode cX11_fault 1 = .ok (.lookupswitch 37 #[(0, 27), (1, 32)], 27) := by decide +kernel
theorem dX11_feed_7 : decode cX11_feed 7 = .ok (.sipush 800, 3) := by decide +kernel
theorem dX11_feed_17 : decode cX11_feed 17 = .ok (.invokevirtual 104, 3) := xh_invokevirtual (by decide +kernel)
theorem dX11_feed_22 : decode cX11_feed 22 = .ok (.invokevirtual 104, 3) := xh_invokevirtual (by decide +kernel)
theorem dX11_feed_27 : decode cX11_feed 27 = .ok (.invokevirtual 104, 3) := xh_invokevirtual (by decide +kernel)
theorem dX11_feed_33 : decode cX11_feed 33 = .ok (.invokevirtual 104, 3) := xh_invokevirtual (by decide +kernel)
theorem dX11_feed_39 : decode cX11_feed 39 = .ok (.invokevirtual 104, 3) := xh_invokevirtual (by decide +kernel)
theorem dX11_gang_5 : decode cX11_gang 5 = .ok (.invokevirtual 302, 3) := xh_invokevirtual (by decide +kernel)
theorem dX11_gang_8 : decode cX11_gang 8 = .ok (.invokevirtual 306, 3) := xh_invokevirtual (by decide +kernel)
theorem dX11_gang_41 : decode cX11_gang 41 = .ok (.invokestatic 216, 3) := xh_invokestatic (by decide +kernel)
theorem dX11_gang_70 : decode cX11_gang 70 = .ok (.invokevirtual 328, 3) := xh_invokevirtual (by decide +kernel)
theorem dX11_gang_73 : decode cX11_gang 73 = .ok (.ldc2_w 313, 3) := xh_ldc2_w (by decide +kernel)
theorem dX11_hum_16 : decode cX11_hum 16 = .ok (.invokevirtual 296, 3) := xh_invokevirtual (by decide +kernel)
theorem dX11_isRound_6 : decode cX11_isRound 6 = .ok (.invokevirtual 195, 3) := xh_invokevirtual (by decide +kernel)
theorem dX11_keep_8 : decode cX11_keep 8 = .ok (.invokevirtual 354, 3) := xh_invokevirtual (by decide +kernel)
theorem dX11_keep_13 : decode cX11_keep 13 = .ok (.putfield 96, 3) := xh_putfield (by decide +kernel)
theorem dX11_known_23 : decode cX11_known 23 = .ok (.putfield 299, 3) := xh_putfield (by decide +kernel)
theorem dX11_leastTerm_11 : decode cX11_leastTerm 11 = .ok (.sipush 1000, 3) := by decide +kernel
theorem dX11_named_1 : decode cX11_named 1 = .ok (.tableswitch 79 0 3 #[31, 43, 55, 67], 31) := by decide +kernel
theorem dX11_named_40 : decode cX11_named 40 = .ok (.invokevirtual 131, 3) := xh_invokevirtual (by decide +kernel)
theorem dX11_named_52 : decode cX11_named 52 = .ok (.invokevirtual 131, 3) := xh_invokevirtual (by decide +kernel)
theorem dX11_named_64 : decode cX11_named 64 = .ok (.invokevirtual 131, 3) := xh_invokevirtual (by decide +kernel)
theorem dX11_named_76 : decode cX11_named 76 = .ok (.invokevirtual 131, 3) := xh_invokevirtual (by decide +kernel)
theorem dX11_odds_8 : decode cX11_odds 8 = .ok (.invokevirtual 145, 3) := xh_invokevirtual (by decide +kernel)
theorem dX11_odds_26 : decode cX11_odds 26 = .ok (.invokevirtual 315, 3) := xh_invokevirtual (by decide +kernel)
theorem dX11_odds_105 : decode cX11_odds 105 = .ok (.invokestatic 321, 3) := xh_invokestatic (by decide +kernel)
theorem dX11_pay_8 : decode cX11_pay 8 = .ok (.invokevirtual 145, 3) := xh_invokevirtual (by decide +kernel)
theorem dX11_pay_65 : decode cX11_pay 65 = .ok (.invokestatic 344, 3) := xh_invokestatic (by decide +kernel)
theorem dX11_pay_119 : decode cX11_pay 119 = .ok (.putfield 349, 3) := xh_putfield (by decide +kernel)
theorem dX11_pitch_6 : decode cX11_pitch 6 = .ok (.invokevirtual 195, 3) := xh_invokevirtual (by decide +kernel)
theorem dX11_pitch_16 : decode cX11_pitch 16 = .ok (.invokestatic 202, 3) := xh_invokestatic (by decide +kernel)
theorem dX11_pitch_46 : decode cX11_pitch 46 = .ok (.invokevirtual 206, 3) := xh_invokevirtual (by decide +kernel)
theorem dX11_reachOf_36 : decode cX11_reachOf 36 = .ok (.invokevirtual 310, 3) := xh_invokevirtual (by decide +kernel)
theorem dX11_redeem_6 : decode cX11_redeem 6 = .ok (.invokevirtual 195, 3) := xh_invokevirtual (by decide +kernel)
theorem dX11_redeem_20 : decode cX11_redeem 20 = .ok (.invokevirtual 145, 3) := xh_invokevirtual (by decide +kernel)
theorem dX11_redeem_31 : decode cX11_redeem 31 = .ok (.invokevirtual 172, 3) := xh_invokevirtual (by decide +kernel)
theorem dX11_redeem_41 : decode cX11_redeem 41 = .ok (.invokestatic 202, 3) := xh_invokestatic (by decide +kernel)
theorem dX11_redeem_63 : decode cX11_redeem 63 = .ok (.invokevirtual 236, 3) := xh_invokevirtual (by decide +kernel)
theorem dX11_redeem_78 : decode cX11_redeem 78 = .ok (.invokevirtual 209, 3) := xh_invokevirtual (by decide +kernel)
theorem dX11_redeem_116 : decode cX11_redeem 116 = .ok (.invokevirtual 242, 3) := xh_invokevirtual (by decide +kernel)
theorem dX11_round_6 : decode cX11_round 6 = .ok (.invokevirtual 331, 3) := xh_invokevirtual (by decide +kernel)
theorem dX11_round_20 : decode cX11_round 20 = .ok (.invokestatic 202, 3) := xh_invokestatic (by decide +kernel)
theorem dX11_round_26 : decode cX11_round 26 = .ok (.invokevirtual 335, 3) := xh_invokevirtual (by decide +kernel)
theorem dX11_run_8 : decode cX11_run 8 = .ok (.invokevirtual 145, 3) := xh_invokevirtual (by decide +kernel)
theorem dX11_run_29 : decode cX11_run 29 = .ok (.invokevirtual 145, 3) := xh_invokevirtual (by decide +kernel)
theorem dX11_run_53 : decode cX11_run 53 = .ok (.invokevirtual 341, 3) := xh_invokevirtual (by decide +kernel)
theorem dX11_shareOf_56 : decode cX11_shareOf 56 = .ok (.invokestatic 344, 3) := xh_invokestatic (by decide +kernel)
theorem dX11_singPart_45 : decode cX11_singPart 45 = .ok (.invokevirtual 367, 3) := xh_invokevirtual (by decide +kernel)
theorem dX11_singPart_56 : decode cX11_singPart 56 = .ok (.invokevirtual 213, 3) := xh_invokevirtual (by decide +kernel)
theorem dX11_singPart_59 : decode cX11_singPart 59 = .ok (.invokestatic 216, 3) := xh_invokestatic (by decide +kernel)
theorem dX11_sings_6 : decode cX11_sings 6 = .ok (.invokevirtual 195, 3) := xh_invokevirtual (by decide +kernel)
theorem dX11_sings_23 : decode cX11_sings 23 = .ok (.invokestatic 202, 3) := xh_invokestatic (by decide +kernel)
theorem dX11_singsIn_24 : decode cX11_singsIn 24 = .ok (.invokestatic 202, 3) := xh_invokestatic (by decide +kernel)
theorem dX11_sold_5 : decode cX11_sold 5 = .ok (.invokevirtual 280, 3) := xh_invokevirtual (by decide +kernel)
theorem dX11_sold_19 : decode cX11_sold 19 = .ok (.invokevirtual 145, 3) := xh_invokevirtual (by decide +kernel)
theorem dX11_sold_51 : decode cX11_sold 51 = .ok (.invokevirtual 283, 3) := xh_invokevirtual (by decide +kernel)
theorem dX11_sounds_6 : decode cX11_sounds 6 = .ok (.invokevirtual 195, 3) := xh_invokevirtual (by decide +kernel)
theorem dX11_sounds_20 : decode cX11_sounds 20 = .ok (.invokevirtual 145, 3) := xh_invokevirtual (by decide +kernel)
theorem dX11_sounds_34 : decode cX11_sounds 34 = .ok (.invokestatic 202, 3) := xh_invokestatic (by decide +kernel)
theorem dX11_sounds_38 : decode cX11_sounds 38 = .ok (.invokevirtual 213, 3) := xh_invokevirtual (by decide +kernel)
theorem dX11_sounds_41 : decode cX11_sounds 41 = .ok (.invokestatic 216, 3) := xh_invokestatic (by decide +kernel)
theorem dX11_strike_22 : decode cX11_strike 22 = .ok (.invokevirtual 296, 3) := xh_invokevirtual (by decide +kernel)
theorem dX11_sunday_26 : decode cX11_sunday 26 = .ok (.invokevirtual 258, 3) := xh_invokevirtual (by decide +kernel)
theorem dX11_sunday_41 : decode cX11_sunday 41 = .ok (.invokevirtual 261, 3) := xh_invokevirtual (by decide +kernel)
theorem dX11_sunday_45 : decode cX11_sunday 45 = .ok (.invokevirtual 264, 3) := xh_invokevirtual (by decide +kernel)
end
section
theorem dX11_sunday_58 : decode cX11_sunday 58 = .ok (.putfield 227, 3) := xh_putfield (by decide +kernel)
theorem dX11_sunday_66 : decode cX11_sunday 66 = .ok (.putfield 124, 3) := xh_putfield (by decide +kernel)
theorem dX11_tapeNumber_11 : decode cX11_tapeNumber 11 = .ok (.sipush 800, 3) := by decide +kernel
theorem dX11_tapeNumber_37 : decode cX11_tapeNumber 37 = .ok (.putfield 86, 3) := xh_putfield (by decide +kernel)
theorem dX11_tavern_8 : decode cX11_tavern 8 = .ok (.invokevirtual 145, 3) := xh_invokevirtual (by decide +kernel)
theorem dX11_tavern_17 : decode cX11_tavern 17 = .ok (.tableswitch 53 0 2 #[27, 37, 47], 27) := by decide +kernel
theorem dX11_tavern_66 : decode cX11_tavern 66 = .ok (.invokevirtual 189, 3) := xh_invokevirtual (by decide +kernel)
theorem dX11_text_20 : decode cX11_text 20 = .ok (.invokevirtual 108, 3) := xh_invokevirtual (by decide +kernel)
theorem dX11_text_26 : decode cX11_text 26 = .ok (.putfield 86, 3) := xh_putfield (by decide +kernel)
theorem dX11_text_40 : decode cX11_text 40 = .ok (.putfield 90, 3) := xh_putfield (by decide +kernel)
theorem dX11_text_54 : decode cX11_text 54 = .ok (.putfield 93, 3) := xh_putfield (by decide +kernel)
theorem dX11_text_74 : decode cX11_text 74 = .ok (.invokevirtual 118, 3) := xh_invokevirtual (by decide +kernel)
theorem dX11_text_85 : decode cX11_text 85 = .ok (.invokevirtual 100, 3) := xh_invokevirtual (by decide +kernel)
theorem dX11_text_93 : decode cX11_text 93 = .ok (.putfield 121, 3) := xh_putfield (by decide +kernel)
theorem dX11_text_98 : decode cX11_text 98 = .ok (.putfield 96, 3) := xh_putfield (by decide +kernel)
theorem dX11_text_106 : decode cX11_text 106 = .ok (.putfield 124, 3) := xh_putfield (by decide +kernel)
theorem dX11_thieves_5 : decode cX11_thieves 5 = .ok (.invokevirtual 302, 3) := xh_invokevirtual (by decide +kernel)
theorem dX11_thieves_8 : decode cX11_thieves 8 = .ok (.invokevirtual 306, 3) := xh_invokevirtual (by decide +kernel)
theorem dX11_thieves_38 : decode cX11_thieves 38 = .ok (.invokevirtual 172, 3) := xh_invokevirtual (by decide +kernel)
theorem dX11_thieves_51 : decode cX11_thieves 51 = .ok (.invokevirtual 310, 3) := xh_invokevirtual (by decide +kernel)
theorem dX11_thieves_54 : decode cX11_thieves 54 = .ok (.ldc2_w 313, 3) := xh_ldc2_w (by decide +kernel)
theorem dX11_undo_99 : decode cX11_undo 99 = .ok (.invokevirtual 255, 3) := xh_invokevirtual (by decide +kernel)
theorem dX11_verse_8 : decode cX11_verse 8 = .ok (.invokevirtual 145, 3) := xh_invokevirtual (by decide +kernel)
theorem dX11_verse_42 : decode cX11_verse 42 = .ok (.invokevirtual 195, 3) := xh_invokevirtual (by decide +kernel)
theorem dX11_verse_61 : decode cX11_verse 61 = .ok (.invokestatic 202, 3) := xh_invokestatic (by decide +kernel)
theorem dX11_whole_8 : decode cX11_whole 8 = .ok (.invokevirtual 145, 3) := xh_invokevirtual (by decide +kernel)
theorem dX11_whole_33 : decode cX11_whole 33 = .ok (.ldc2_w 313, 3) := xh_ldc2_w (by decide +kernel)
theorem dX11_whole_42 : decode cX11_whole 42 = .ok (.invokevirtual 172, 3) := xh_invokevirtual (by decide +kernel)
theorem dX11_whole_56 : decode cX11_whole 56 = .ok (.invokevirtual 175, 3) := xh_invokevirtual (by decide +kernel)
theorem dX11_whole_98 : decode cX11_whole 98 = .ok (.invokevirtual 230, 3) := xh_invokevirtual (by decide +kernel)
theorem dX11_whole_108 : decode cX11_whole 108 = .ok (.ldc2_w 352, 3) := xh_ldc2_w (by decide +kernel)
theorem dX11_whole_125 : decode cX11_whole 125 = .ok (.invokestatic 321, 3) := xh_invokestatic (by decide +kernel)
theorem dX0_init_1 : decode cX0_init 1 = .ok (.invokespecial 3, 3) := xh_invokespecial (by decide +kernel)
theorem dX0_init_7 : decode cX0_init 7 = .ok (.newarray .int, 2) := by decide +kernel
theorem dX0_init_9 : decode cX0_init 9 = .ok (.putfield 9, 3) := xh_putfield (by decide +kernel)
theorem dX0_init_14 : decode cX0_init 14 = .ok (.newarray .int, 2) := by decide +kernel
theorem dX0_init_16 : decode cX0_init 16 = .ok (.putfield 15, 3) := xh_putfield (by decide +kernel)
theorem dX0_init_21 : decode cX0_init 21 = .ok (.newarray .int, 2) := by decide +kernel
theorem dX0_init_23 : decode cX0_init 23 = .ok (.putfield 18, 3) := xh_putfield (by decide +kernel)
theorem dX0_init_28 : decode cX0_init 28 = .ok (.putfield 21, 3) := xh_putfield (by decide +kernel)
theorem dX0_init_33 : decode cX0_init 33 = .ok (.putfield 25, 3) := xh_putfield (by decide +kernel)
theorem dX0_init_38 : decode cX0_init 38 = .ok (.putfield 28, 3) := xh_putfield (by decide +kernel)
theorem dX0_init_42 : decode cX0_init 42 = .ok (.ldc 31, 2) := by decide +kernel
theorem dX0_init_44 : decode cX0_init 44 = .ok (.putfield 32, 3) := xh_putfield (by decide +kernel)
theorem dX0_init_49 : decode cX0_init 49 = .ok (.putfield 35, 3) := xh_putfield (by decide +kernel)
theorem dX0_init_54 : decode cX0_init 54 = .ok (.putfield 39, 3) := xh_putfield (by decide +kernel)
theorem dX0_init_59 : decode cX0_init 59 = .ok (.putfield 43, 3) := xh_putfield (by decide +kernel)
theorem dX0_fewestGaps_17 : decode cX0_fewestGaps 17 = .ok (.invokestatic 63, 3) := xh_invokestatic (by decide +kernel)
theorem dX0_fewestGaps_30 : decode cX0_fewestGaps 30 = .ok (.putfield 21, 3) := xh_putfield (by decide +kernel)
theorem dX0_fewestGaps_35 : decode cX0_fewestGaps 35 = .ok (.putfield 25, 3) := xh_putfield (by decide +kernel)
theorem dX0_fewestGaps_54 : decode cX0_fewestGaps 54 = .ok (.putfield 28, 3) := xh_putfield (by decide +kernel)
theorem dX0_fewestGaps_58 : decode cX0_fewestGaps 58 = .ok (.ldc 31, 2) := by decide +kernel
theorem dX0_fewestGaps_60 : decode cX0_fewestGaps 60 = .ok (.putfield 32, 3) := xh_putfield (by decide +kernel)
theorem dX0_fewestGaps_94 : decode cX0_fewestGaps 94 = .ok (.invokevirtual 72, 3) := xh_invokevirtual (by decide +kernel)
theorem dX0_fewestGaps_114 : decode cX0_fewestGaps 114 = .ok (.invokevirtual 78, 3) := xh_invokevirtual (by decide +kernel)
theorem dX0_fill_18 : decode cX0_fill 18 = .ok (.invokestatic 82, 3) := xh_invokestatic (by decide +kernel)
theorem dX0_fill_36 : decode cX0_fill 36 = .ok (.putfield 32, 3) := xh_putfield (by decide +kernel)
theorem dX0_fill_50 : decode cX0_fill 50 = .ok (.invokestatic 87, 3) := xh_invokestatic (by decide +kernel)
theorem dX0_fill_116 : decode cX0_fill 116 = .ok (.invokevirtual 78, 3) := xh_invokevirtual (by decide +kernel)
theorem dX1_init_1 : decode cX1_init 1 = .ok (.invokespecial 5, 3) := xh_invokespecial (by decide +kernel)
theorem dX1_init_7 : decode cX1_init 7 = .ok (.newarray .int, 2) := by decide +kernel
theorem dX1_init_9 : decode cX1_init 9 = .ok (.putfield 11, 3) := xh_putfield (by decide +kernel)
theorem dX1_init_15 : decode cX1_init 15 = .ok (.newarray .int, 2) := by decide +kernel
theorem dX1_init_17 : decode cX1_init 17 = .ok (.putfield 15, 3) := xh_putfield (by decide +kernel)
theorem dX1_init_23 : decode cX1_init 23 = .ok (.newarray .int, 2) := by decide +kernel
theorem dX1_init_25 : decode cX1_init 25 = .ok (.putfield 18, 3) := xh_putfield (by decide +kernel)
theorem dX1_init_32 : decode cX1_init 32 = .ok (.multianewarray 21 2, 4) := by decide +kernel
theorem dX1_init_36 : decode cX1_init 36 = .ok (.putfield 23, 3) := xh_putfield (by decide +kernel)
theorem dX1_init_42 : decode cX1_init 42 = .ok (.newarray .int, 2) := by decide +kernel
theorem dX1_init_44 : decode cX1_init 44 = .ok (.putfield 26, 3) := xh_putfield (by decide +kernel)
theorem dX1_init_49 : decode cX1_init 49 = .ok (.putfield 29, 3) := xh_putfield (by decide +kernel)
theorem dX1_init_54 : decode cX1_init 54 = .ok (.putfield 33, 3) := xh_putfield (by decide +kernel)
theorem dX1_init_59 : decode cX1_init 59 = .ok (.putfield 36, 3) := xh_putfield (by decide +kernel)
theorem dX1_init_64 : decode cX1_init 64 = .ok (.putfield 40, 3) := xh_putfield (by decide +kernel)
theorem dX1_init_69 : decode cX1_init 69 = .ok (.putfield 44, 3) := xh_putfield (by decide +kernel)
theorem dX1_init_74 : decode cX1_init 74 = .ok (.putfield 48, 3) := xh_putfield (by decide +kernel)
theorem dX1_choose_2 : decode cX1_choose 2 = .ok (.invokevirtual 84, 3) := xh_invokevirtual (by decide +kernel)
theorem dX1_choose_24 : decode cX1_choose 24 = .ok (.invokevirtual 88, 3) := xh_invokevirtual (by decide +kernel)
theorem dX1_choose_51 : decode cX1_choose 51 = .ok (.invokevirtual 91, 3) := xh_invokevirtual (by decide +kernel)
theorem dX1_choose_60 : decode cX1_choose 60 = .ok (.invokevirtual 95, 3) := xh_invokevirtual (by decide +kernel)
theorem dX1_fits_25 : decode cX1_fits 25 = .ok (.putfield 29, 3) := xh_putfield (by decide +kernel)
theorem dX1_fits_30 : decode cX1_fits 30 = .ok (.putfield 33, 3) := xh_putfield (by decide +kernel)
theorem dX1_fits_54 : decode cX1_fits 54 = .ok (.invokestatic 98, 3) := xh_invokestatic (by decide +kernel)
theorem dX1_fits_138 : decode cX1_fits 138 = .ok (.putfield 29, 3) := xh_putfield (by decide +kernel)
theorem dX1_fits_160 : decode cX1_fits 160 = .ok (.putfield 33, 3) := xh_putfield (by decide +kernel)
theorem dX1_joinRest_17 : decode cX1_joinRest 17 = .ok (.ldc 63, 2) := by decide +kernel
theorem dX1_joinRest_19 : decode cX1_joinRest 19 = .ok (.invokestatic 64, 3) := xh_invokestatic (by decide +kernel)
theorem dX1_joinRest_52 : decode cX1_joinRest 52 = .ok (.ldc 63, 2) := by decide +kernel
theorem dX1_joinRest_82 : decode cX1_joinRest 82 = .ok (.invokestatic 119, 3) := xh_invokestatic (by decide +kernel)
theorem dX1_weigh_10 : decode cX1_weigh 10 = .ok (.putfield 36, 3) := xh_putfield (by decide +kernel)
theorem dX1_weigh_30 : decode cX1_weigh 30 = .ok (.ldc 63, 2) := by decide +kernel
theorem dX1_weigh_32 : decode cX1_weigh 32 = .ok (.invokestatic 64, 3) := xh_invokestatic (by decide +kernel)
theorem dX1_weigh_70 : decode cX1_weigh 70 = .ok (.invokevirtual 73, 3) := xh_invokevirtual (by decide +kernel)
theorem dX1_weigh_81 : decode cX1_weigh 81 = .ok (.invokevirtual 77, 3) := xh_invokevirtual (by decide +kernel)
theorem dX1_weigh_86 : decode cX1_weigh 86 = .ok (.invokevirtual 81, 3) := xh_invokevirtual (by decide +kernel)
theorem dX1_weighPart_2 : decode cX1_weighPart 2 = .ok (.invokestatic 98, 3) := xh_invokestatic (by decide +kernel)
theorem dX1_weighPart_42 : decode cX1_weighPart 42 = .ok (.invokevirtual 105, 3) := xh_invokevirtual (by decide +kernel)
theorem dX1_weighPart_45 : decode cX1_weighPart 45 = .ok (.invokestatic 110, 3) := xh_invokestatic (by decide +kernel)
theorem dX1_weighPart_68 : decode cX1_weighPart 68 = .ok (.invokevirtual 115, 3) := xh_invokevirtual (by decide +kernel)
theorem dX1_weighRows_4 : decode cX1_weighRows 4 = .ok (.ldc 63, 2) := by decide +kernel
theorem dX1_weighRows_6 : decode cX1_weighRows 6 = .ok (.invokestatic 64, 3) := xh_invokestatic (by decide +kernel)
theorem dX1_weighRows_11 : decode cX1_weighRows 11 = .ok (.invokevirtual 88, 3) := xh_invokevirtual (by decide +kernel)
theorem dX1_weighRows_25 : decode cX1_weighRows 25 = .ok (.invokevirtual 91, 3) := xh_invokevirtual (by decide +kernel)
theorem dX2_init_1 : decode cX2_init 1 = .ok (.invokespecial 3, 3) := xh_invokespecial (by decide +kernel)
theorem dX2_init_7 : decode cX2_init 7 = .ok (.newarray .int, 2) := by decide +kernel
theorem dX2_init_9 : decode cX2_init 9 = .ok (.putfield 9, 3) := xh_putfield (by decide +kernel)
theorem dX2_init_15 : decode cX2_init 15 = .ok (.newarray .int, 2) := by decide +kernel
theorem dX2_init_17 : decode cX2_init 17 = .ok (.putfield 15, 3) := xh_putfield (by decide +kernel)
theorem dX2_init_22 : decode cX2_init 22 = .ok (.newarray .int, 2) := by decide +kernel
theorem dX2_init_24 : decode cX2_init 24 = .ok (.putfield 18, 3) := xh_putfield (by decide +kernel)
theorem dX2_init_29 : decode cX2_init 29 = .ok (.newarray .int, 2) := by decide +kernel
theorem dX2_init_31 : decode cX2_init 31 = .ok (.putfield 21, 3) := xh_putfield (by decide +kernel)
theorem dX2_init_36 : decode cX2_init 36 = .ok (.putfield 24, 3) := xh_putfield (by decide +kernel)
theorem dX2_init_42 : decode cX2_init 42 = .ok (.newarray .int, 2) := by decide +kernel
theorem dX2_init_44 : decode cX2_init 44 = .ok (.putfield 28, 3) := xh_putfield (by decide +kernel)
theorem dX2_init_49 : decode cX2_init 49 = .ok (.putfield 31, 3) := xh_putfield (by decide +kernel)
theorem dX2_init_54 : decode cX2_init 54 = .ok (.putfield 34, 3) := xh_putfield (by decide +kernel)
theorem dX2_init_59 : decode cX2_init 59 = .ok (.putfield 37, 3) := xh_putfield (by decide +kernel)
theorem dX2_init_64 : decode cX2_init 64 = .ok (.putfield 40, 3) := xh_putfield (by decide +kernel)
theorem dX2_clear_2 : decode cX2_clear 2 = .ok (.putfield 24, 3) := xh_putfield (by decide +kernel)
theorem dX2_clear_7 : decode cX2_clear 7 = .ok (.putfield 37, 3) := xh_putfield (by decide +kernel)
theorem dX2_clear_15 : decode cX2_clear 15 = .ok (.invokestatic 44, 3) := xh_invokestatic (by decide +kernel)
theorem dX2_clear_23 : decode cX2_clear 23 = .ok (.invokestatic 44, 3) := xh_invokestatic (by decide +kernel)
theorem dX2_hold_29 : decode cX2_hold 29 = .ok (.putfield 31, 3) := xh_putfield (by decide +kernel)
theorem dX2_hold_44 : decode cX2_hold 44 = .ok (.putfield 34, 3) := xh_putfield (by decide +kernel)
theorem dX2_isRoom_11 : decode cX2_isRoom 11 = .ok (.invokevirtual 79, 3) := xh_invokevirtual (by decide +kernel)
theorem dX2_isRoom_22 : decode cX2_isRoom 22 = .ok (.putfield 37, 3) := xh_putfield (by decide +kernel)
theorem dX2_levelOf_1 : decode cX2_levelOf 1 = .ok (.tableswitch 106 13 32 #[101, 101, 103, 103, 106, 106, 106, 106, 106, 106, 106, 106, 106, 106, 106, 106, 106, 95, 97, 99], 95) := by decide +kernel
theorem dX2_put_36 : decode cX2_put 36 = .ok (.putfield 24, 3) := xh_putfield (by decide +kernel)
theorem dX2_readSign_20 : decode cX2_readSign 20 = .ok (.invokevirtual 68, 3) := xh_invokevirtual (by decide +kernel)
theorem dX2_readSign_30 : decode cX2_readSign 30 = .ok (.putfield 31, 3) := xh_putfield (by decide +kernel)
theorem dX2_readSign_40 : decode cX2_readSign 40 = .ok (.putfield 34, 3) := xh_putfield (by decide +kernel)
theorem dX2_readSign_46 : decode cX2_readSign 46 = .ok (.invokestatic 96, 3) := xh_invokestatic (by decide +kernel)
theorem dX2_readSign_68 : decode cX2_readSign 68 = .ok (.invokevirtual 79, 3) := xh_invokevirtual (by decide +kernel)
theorem dX2_readSign_91 : decode cX2_readSign 91 = .ok (.invokevirtual 68, 3) := xh_invokevirtual (by decide +kernel)
theorem dX2_readSign_100 : decode cX2_readSign 100 = .ok (.invokevirtual 82, 3) := xh_invokevirtual (by decide +kernel)
theorem dX2_readSign_109 : decode cX2_readSign 109 = .ok (.invokevirtual 79, 3) := xh_invokevirtual (by decide +kernel)
theorem dX2_readSign_115 : decode cX2_readSign 115 = .ok (.putfield 40, 3) := xh_putfield (by decide +kernel)
theorem dX2_readSign_120 : decode cX2_readSign 120 = .ok (.invokevirtual 86, 3) := xh_invokevirtual (by decide +kernel)
theorem dX2_readSign_128 : decode cX2_readSign 128 = .ok (.invokevirtual 75, 3) := xh_invokevirtual (by decide +kernel)
theorem dX2_readValue_21 : decode cX2_readValue 21 = .ok (.invokevirtual 75, 3) := xh_invokevirtual (by decide +kernel)
theorem dX2_readValue_29 : decode cX2_readValue 29 = .ok (.invokevirtual 79, 3) := xh_invokevirtual (by decide +kernel)
theorem dX2_readValue_40 : decode cX2_readValue 40 = .ok (.invokevirtual 82, 3) := xh_invokevirtual (by decide +kernel)
theorem dX2_readValue_49 : decode cX2_readValue 49 = .ok (.invokevirtual 86, 3) := xh_invokevirtual (by decide +kernel)
theorem dX2_readValue_57 : decode cX2_readValue 57 = .ok (.invokevirtual 75, 3) := xh_invokevirtual (by decide +kernel)
theorem dX2_readValue_88 : decode cX2_readValue 88 = .ok (.invokevirtual 79, 3) := xh_invokevirtual (by decide +kernel)
theorem dX2_readValue_96 : decode cX2_readValue 96 = .ok (.sipush 9999, 3) := by decide +kernel
theorem dX2_readValue_109 : decode cX2_readValue 109 = .ok (.invokevirtual 79, 3) := xh_invokevirtual (by decide +kernel)
theorem dX2_readValue_115 : decode cX2_readValue 115 = .ok (.putfield 40, 3) := xh_putfield (by decide +kernel)
theorem dX2_readValue_120 : decode cX2_readValue 120 = .ok (.invokevirtual 86, 3) := xh_invokevirtual (by decide +kernel)
theorem dX2_readValue_132 : decode cX2_readValue 132 = .ok (.invokevirtual 92, 3) := xh_invokevirtual (by decide +kernel)
theorem dX2_settle_17 : decode cX2_settle 17 = .ok (.invokestatic 96, 3) := xh_invokestatic (by decide +kernel)
theorem dX2_settle_32 : decode cX2_settle 32 = .ok (.invokevirtual 92, 3) := xh_invokevirtual (by decide +kernel)
theorem dX2_settle_38 : decode cX2_settle 38 = .ok (.putfield 31, 3) := xh_putfield (by decide +kernel)
end
section
theorem dX2_take_15 : decode cX2_take 15 = .ok (.invokestatic 50, 3) := xh_invokestatic (by decide +kernel)
theorem dX2_take_33 : decode cX2_take 33 = .ok (.invokestatic 50, 3) := xh_invokestatic (by decide +kernel)
theorem dX2_take_51 : decode cX2_take 51 = .ok (.invokestatic 50, 3) := xh_invokestatic (by decide +kernel)
theorem dX2_take_69 : decode cX2_take 69 = .ok (.invokestatic 50, 3) := xh_invokestatic (by decide +kernel)
theorem dX2_take_77 : decode cX2_take 77 = .ok (.putfield 24, 3) := xh_putfield (by decide +kernel)
theorem dX2_tell_12 : decode cX2_tell 12 = .ok (.putfield 31, 3) := xh_putfield (by decide +kernel)
theorem dX2_tell_17 : decode cX2_tell 17 = .ok (.putfield 34, 3) := xh_putfield (by decide +kernel)
theorem dX2_tell_22 : decode cX2_tell 22 = .ok (.putfield 40, 3) := xh_putfield (by decide +kernel)
theorem dX2_tell_32 : decode cX2_tell 32 = .ok (.sipush 800, 3) := by decide +kernel
theorem dX2_tell_51 : decode cX2_tell 51 = .ok (.invokevirtual 56, 3) := xh_invokevirtual (by decide +kernel)
theorem dX2_tell_59 : decode cX2_tell 59 = .ok (.invokevirtual 60, 3) := xh_invokevirtual (by decide +kernel)
theorem dX2_tell_68 : decode cX2_tell 68 = .ok (.invokevirtual 63, 3) := xh_invokevirtual (by decide +kernel)
theorem dX2_tell_79 : decode cX2_tell 79 = .ok (.invokevirtual 68, 3) := xh_invokevirtual (by decide +kernel)
theorem dX2_topLevel_22 : decode cX2_topLevel 22 = .ok (.invokestatic 96, 3) := xh_invokestatic (by decide +kernel)
theorem dX3_init_1 : decode cX3_init 1 = .ok (.invokespecial 3, 3) := xh_invokespecial (by decide +kernel)
theorem dX3_init_7 : decode cX3_init 7 = .ok (.newarray .int, 2) := by decide +kernel
theorem dX3_init_9 : decode cX3_init 9 = .ok (.putfield 9, 3) := xh_putfield (by decide +kernel)
theorem dX3_init_14 : decode cX3_init 14 = .ok (.putfield 15, 3) := xh_putfield (by decide +kernel)
theorem dX3_add_28 : decode cX3_add 28 = .ok (.putfield 15, 3) := xh_putfield (by decide +kernel)
theorem dX3_pitches_9 : decode cX3_pitches 9 = .ok (.invokestatic 19, 3) := xh_invokestatic (by decide +kernel)
theorem dX4_init_1 : decode cX4_init 1 = .ok (.invokespecial 3, 3) := xh_invokespecial (by decide +kernel)
theorem dX4_init_5 : decode cX4_init 5 = .ok (.new 9, 3) := xh_new (by decide +kernel)
theorem dX4_init_10 : decode cX4_init 10 = .ok (.invokespecial 11, 3) := xh_invokespecial (by decide +kernel)
theorem dX4_init_13 : decode cX4_init 13 = .ok (.putfield 14, 3) := xh_putfield (by decide +kernel)
theorem dX4_init_17 : decode cX4_init 17 = .ok (.new 9, 3) := xh_new (by decide +kernel)
theorem dX4_init_23 : decode cX4_init 23 = .ok (.invokespecial 11, 3) := xh_invokespecial (by decide +kernel)
theorem dX4_init_26 : decode cX4_init 26 = .ok (.putfield 20, 3) := xh_putfield (by decide +kernel)
theorem dX4_init_30 : decode cX4_init 30 = .ok (.new 9, 3) := xh_new (by decide +kernel)
theorem dX4_init_35 : decode cX4_init 35 = .ok (.invokespecial 11, 3) := xh_invokespecial (by decide +kernel)
theorem dX4_init_38 : decode cX4_init 38 = .ok (.putfield 23, 3) := xh_putfield (by decide +kernel)
theorem dX4_init_42 : decode cX4_init 42 = .ok (.new 9, 3) := xh_new (by decide +kernel)
theorem dX4_init_47 : decode cX4_init 47 = .ok (.invokespecial 11, 3) := xh_invokespecial (by decide +kernel)
theorem dX4_init_50 : decode cX4_init 50 = .ok (.putfield 26, 3) := xh_putfield (by decide +kernel)
theorem dX4_init_55 : decode cX4_init 55 = .ok (.newarray .int, 2) := by decide +kernel
theorem dX4_init_57 : decode cX4_init 57 = .ok (.putfield 29, 3) := xh_putfield (by decide +kernel)
theorem dX4_init_62 : decode cX4_init 62 = .ok (.newarray .int, 2) := by decide +kernel
theorem dX4_init_64 : decode cX4_init 64 = .ok (.putfield 33, 3) := xh_putfield (by decide +kernel)
theorem dX4_init_70 : decode cX4_init 70 = .ok (.newarray .int, 2) := by decide +kernel
theorem dX4_init_72 : decode cX4_init 72 = .ok (.putfield 36, 3) := xh_putfield (by decide +kernel)
theorem dX4_init_78 : decode cX4_init 78 = .ok (.newarray .int, 2) := by decide +kernel
theorem dX4_init_80 : decode cX4_init 80 = .ok (.putfield 39, 3) := xh_putfield (by decide +kernel)
theorem dX4_init_86 : decode cX4_init 86 = .ok (.newarray .int, 2) := by decide +kernel
theorem dX4_init_88 : decode cX4_init 88 = .ok (.putfield 42, 3) := xh_putfield (by decide +kernel)
theorem dX4_init_94 : decode cX4_init 94 = .ok (.newarray .int, 2) := by decide +kernel
theorem dX4_init_96 : decode cX4_init 96 = .ok (.putfield 45, 3) := xh_putfield (by decide +kernel)
theorem dX4_init_102 : decode cX4_init 102 = .ok (.newarray .int, 2) := by decide +kernel
theorem dX4_init_104 : decode cX4_init 104 = .ok (.putfield 48, 3) := xh_putfield (by decide +kernel)
theorem dX4_init_109 : decode cX4_init 109 = .ok (.newarray .int, 2) := by decide +kernel
theorem dX4_init_111 : decode cX4_init 111 = .ok (.putfield 51, 3) := xh_putfield (by decide +kernel)
theorem dX4_init_117 : decode cX4_init 117 = .ok (.newarray .int, 2) := by decide +kernel
theorem dX4_init_119 : decode cX4_init 119 = .ok (.putfield 54, 3) := xh_putfield (by decide +kernel)
theorem dX4_init_125 : decode cX4_init 125 = .ok (.newarray .int, 2) := by decide +kernel
theorem dX4_init_127 : decode cX4_init 127 = .ok (.putfield 57, 3) := xh_putfield (by decide +kernel)
theorem dX4_init_132 : decode cX4_init 132 = .ok (.newarray .int, 2) := by decide +kernel
theorem dX4_init_134 : decode cX4_init 134 = .ok (.putfield 60, 3) := xh_putfield (by decide +kernel)
theorem dX4_init_138 : decode cX4_init 138 = .ok (.new 63, 3) := xh_new (by decide +kernel)
theorem dX4_init_142 : decode cX4_init 142 = .ok (.invokespecial 65, 3) := xh_invokespecial (by decide +kernel)
theorem dX4_init_145 : decode cX4_init 145 = .ok (.putfield 66, 3) := xh_putfield (by decide +kernel)
theorem dX4_init_150 : decode cX4_init 150 = .ok (.putfield 70, 3) := xh_putfield (by decide +kernel)
theorem dX4_init_155 : decode cX4_init 155 = .ok (.putfield 74, 3) := xh_putfield (by decide +kernel)
theorem dX4_init_160 : decode cX4_init 160 = .ok (.putfield 77, 3) := xh_putfield (by decide +kernel)
theorem dX4_clear_5 : decode cX4_clear 5 = .ok (.putfield 80, 3) := xh_putfield (by decide +kernel)
theorem dX4_clear_13 : decode cX4_clear 13 = .ok (.putfield 80, 3) := xh_putfield (by decide +kernel)
theorem dX4_clear_21 : decode cX4_clear 21 = .ok (.putfield 80, 3) := xh_putfield (by decide +kernel)
theorem dX4_clear_29 : decode cX4_clear 29 = .ok (.putfield 80, 3) := xh_putfield (by decide +kernel)
theorem dX4_clear_36 : decode cX4_clear 36 = .ok (.invokevirtual 83, 3) := xh_invokevirtual (by decide +kernel)
theorem dX4_clear_41 : decode cX4_clear 41 = .ok (.putfield 70, 3) := xh_putfield (by decide +kernel)
theorem dX4_clear_46 : decode cX4_clear 46 = .ok (.putfield 74, 3) := xh_putfield (by decide +kernel)
theorem dX4_clear_51 : decode cX4_clear 51 = .ok (.putfield 77, 3) := xh_putfield (by decide +kernel)
theorem dX4_hasPart_5 : decode cX4_hasPart 5 = .ok (.invokevirtual 99, 3) := xh_invokevirtual (by decide +kernel)
theorem dX4_highestIn_18 : decode cX4_highestIn 18 = .ok (.invokevirtual 103, 3) := xh_invokevirtual (by decide +kernel)
theorem dX4_highestIn_21 : decode cX4_highestIn 21 = .ok (.invokestatic 107, 3) := xh_invokestatic (by decide +kernel)
theorem dX4_reach_0 : decode cX4_reach 0 = .ok (.ldc2_w 112, 3) := xh_ldc2_w (by decide +kernel)
theorem dX4_reachedBars_20 : decode cX4_reachedBars 20 = .ok (.invokevirtual 103, 3) := xh_invokevirtual (by decide +kernel)
theorem dX4_restsIn_17 : decode cX4_restsIn 17 = .ok (.invokevirtual 103, 3) := xh_invokevirtual (by decide +kernel)
theorem dX4_take_8 : decode cX4_take 8 = .ok (.invokevirtual 86, 3) := xh_invokevirtual (by decide +kernel)
theorem dX4_take_19 : decode cX4_take 19 = .ok (.invokevirtual 86, 3) := xh_invokevirtual (by decide +kernel)
theorem dX4_take_30 : decode cX4_take 30 = .ok (.invokevirtual 86, 3) := xh_invokevirtual (by decide +kernel)
theorem dX4_take_41 : decode cX4_take 41 = .ok (.invokevirtual 86, 3) := xh_invokevirtual (by decide +kernel)
theorem dX4_take_59 : decode cX4_take 59 = .ok (.invokestatic 90, 3) := xh_invokestatic (by decide +kernel)
theorem dX4_take_77 : decode cX4_take 77 = .ok (.invokestatic 90, 3) := xh_invokestatic (by decide +kernel)
theorem dX4_take_95 : decode cX4_take 95 = .ok (.invokestatic 90, 3) := xh_invokestatic (by decide +kernel)
theorem dX4_take_113 : decode cX4_take 113 = .ok (.invokestatic 90, 3) := xh_invokestatic (by decide +kernel)
theorem dX4_take_131 : decode cX4_take 131 = .ok (.invokestatic 90, 3) := xh_invokestatic (by decide +kernel)
theorem dX4_take_149 : decode cX4_take 149 = .ok (.invokestatic 90, 3) := xh_invokestatic (by decide +kernel)
theorem dX4_take_167 : decode cX4_take 167 = .ok (.invokestatic 90, 3) := xh_invokestatic (by decide +kernel)
theorem dX4_take_185 : decode cX4_take 185 = .ok (.invokestatic 90, 3) := xh_invokestatic (by decide +kernel)
theorem dX4_take_203 : decode cX4_take 203 = .ok (.invokestatic 90, 3) := xh_invokestatic (by decide +kernel)
theorem dX4_take_221 : decode cX4_take 221 = .ok (.invokestatic 90, 3) := xh_invokestatic (by decide +kernel)
theorem dX4_take_239 : decode cX4_take 239 = .ok (.invokestatic 90, 3) := xh_invokestatic (by decide +kernel)
theorem dX4_take_250 : decode cX4_take 250 = .ok (.invokevirtual 96, 3) := xh_invokevirtual (by decide +kernel)
theorem dX4_take_258 : decode cX4_take 258 = .ok (.putfield 70, 3) := xh_putfield (by decide +kernel)
theorem dX4_take_266 : decode cX4_take 266 = .ok (.putfield 74, 3) := xh_putfield (by decide +kernel)
theorem dX4_take_274 : decode cX4_take 274 = .ok (.putfield 77, 3) := xh_putfield (by decide +kernel)
theorem dX5_init_1 : decode cX5_init 1 = .ok (.invokespecial 3, 3) := xh_invokespecial (by decide +kernel)
theorem dX5_init_7 : decode cX5_init 7 = .ok (.newarray .long, 2) := by decide +kernel
theorem dX5_init_9 : decode cX5_init 9 = .ok (.putfield 9, 3) := xh_putfield (by decide +kernel)
theorem dX5_init_15 : decode cX5_init 15 = .ok (.newarray .long, 2) := by decide +kernel
theorem dX5_init_17 : decode cX5_init 17 = .ok (.putfield 15, 3) := xh_putfield (by decide +kernel)
theorem dX5_init_22 : decode cX5_init 22 = .ok (.putfield 18, 3) := xh_putfield (by decide +kernel)
theorem dX5_init_27 : decode cX5_init 27 = .ok (.putfield 22, 3) := xh_putfield (by decide +kernel)
theorem dX5_init_32 : decode cX5_init 32 = .ok (.putfield 26, 3) := xh_putfield (by decide +kernel)
theorem dX5_init_37 : decode cX5_init 37 = .ok (.putfield 30, 3) := xh_putfield (by decide +kernel)
theorem dX5_apply_8 : decode cX5_apply 8 = .ok (.invokevirtual 140, 3) := xh_invokevirtual (by decide +kernel)
theorem dX5_apply_36 : decode cX5_apply 36 = .ok (.invokevirtual 140, 3) := xh_invokevirtual (by decide +kernel)
theorem dX5_apply_50 : decode cX5_apply 50 = .ok (.invokevirtual 131, 3) := xh_invokevirtual (by decide +kernel)
theorem dX5_apply_63 : decode cX5_apply 63 = .ok (.invokevirtual 140, 3) := xh_invokevirtual (by decide +kernel)
theorem dX5_apply_70 : decode cX5_apply 70 = .ok (.invokevirtual 131, 3) := xh_invokevirtual (by decide +kernel)
theorem dX5_apply_75 : decode cX5_apply 75 = .ok (.invokevirtual 131, 3) := xh_invokevirtual (by decide +kernel)
theorem dX5_apply_98 : decode cX5_apply 98 = .ok (.invokevirtual 144, 3) := xh_invokevirtual (by decide +kernel)
theorem dX5_apply_108 : decode cX5_apply 108 = .ok (.invokestatic 148, 3) := xh_invokestatic (by decide +kernel)
theorem dX5_apply_111 : decode cX5_apply 111 = .ok (.invokevirtual 140, 3) := xh_invokevirtual (by decide +kernel)
theorem dX5_bidFor_29 : decode cX5_bidFor 29 = .ok (.invokestatic 50, 3) := xh_invokestatic (by decide +kernel)
theorem dX5_bidFor_57 : decode cX5_bidFor 57 = .ok (.invokevirtual 75, 3) := xh_invokevirtual (by decide +kernel)
theorem dX5_bidFor_71 : decode cX5_bidFor 71 = .ok (.invokevirtual 78, 3) := xh_invokevirtual (by decide +kernel)
theorem dX5_bidFor_74 : decode cX5_bidFor 74 = .ok (.invokestatic 98, 3) := xh_invokestatic (by decide +kernel)
theorem dX5_bidFor_95 : decode cX5_bidFor 95 = .ok (.invokevirtual 71, 3) := xh_invokevirtual (by decide +kernel)
theorem dX5_bidFor_117 : decode cX5_bidFor 117 = .ok (.invokevirtual 84, 3) := xh_invokevirtual (by decide +kernel)
theorem dX5_bidFor_125 : decode cX5_bidFor 125 = .ok (.sipush 999, 3) := by decide +kernel
theorem dX5_bidFor_129 : decode cX5_bidFor 129 = .ok (.invokevirtual 88, 3) := xh_invokevirtual (by decide +kernel)
theorem dX5_bidFor_132 : decode cX5_bidFor 132 = .ok (.invokestatic 103, 3) := xh_invokestatic (by decide +kernel)
theorem dX5_crackFor_39 : decode cX5_crackFor 39 = .ok (.invokevirtual 71, 3) := xh_invokevirtual (by decide +kernel)
theorem dX5_crackFor_55 : decode cX5_crackFor 55 = .ok (.invokevirtual 84, 3) := xh_invokevirtual (by decide +kernel)
theorem dX5_crackFor_63 : decode cX5_crackFor 63 = .ok (.invokevirtual 88, 3) := xh_invokevirtual (by decide +kernel)
theorem dX5_dueFor_21 : decode cX5_dueFor 21 = .ok (.invokestatic 50, 3) := xh_invokestatic (by decide +kernel)
theorem dX5_dueFor_41 : decode cX5_dueFor 41 = .ok (.invokevirtual 56, 3) := xh_invokevirtual (by decide +kernel)
theorem dX5_dueFor_44 : decode cX5_dueFor 44 = .ok (.invokestatic 59, 3) := xh_invokestatic (by decide +kernel)
theorem dX5_dueFor_69 : decode cX5_dueFor 69 = .ok (.invokevirtual 71, 3) := xh_invokevirtual (by decide +kernel)
theorem dX5_dueFor_81 : decode cX5_dueFor 81 = .ok (.invokevirtual 75, 3) := xh_invokevirtual (by decide +kernel)
theorem dX5_dueFor_90 : decode cX5_dueFor 90 = .ok (.invokevirtual 78, 3) := xh_invokevirtual (by decide +kernel)
theorem dX5_dueFor_102 : decode cX5_dueFor 102 = .ok (.invokevirtual 84, 3) := xh_invokevirtual (by decide +kernel)
theorem dX5_dueFor_107 : decode cX5_dueFor 107 = .ok (.sipush 999, 3) := by decide +kernel
theorem dX5_dueFor_112 : decode cX5_dueFor 112 = .ok (.invokevirtual 88, 3) := xh_invokevirtual (by decide +kernel)
theorem dX5_join_1 : decode cX5_join 1 = .ok (.tableswitch 219 7 31 #[159, 171, 183, 195, 207, 219, 115, 119, 219, 219, 219, 219, 219, 219, 219, 219, 219, 219, 219, 219, 219, 219, 219, 141, 123], 115) := by decide +kernel
theorem dX5_pop_16 : decode cX5_pop 16 = .ok (.putfield 18, 3) := xh_putfield (by decide +kernel)
theorem dX5_push_6 : decode cX5_push 6 = .ok (.ldc2_w 155, 3) := xh_ldc2_w (by decide +kernel)
theorem dX5_push_14 : decode cX5_push 14 = .ok (.ldc2_w 157, 3) := xh_ldc2_w (by decide +kernel)
theorem dX5_push_27 : decode cX5_push 27 = .ok (.putfield 22, 3) := xh_putfield (by decide +kernel)
theorem dX5_push_59 : decode cX5_push 59 = .ok (.putfield 18, 3) := xh_putfield (by decide +kernel)
theorem dX5_reckon_12 : decode cX5_reckon 12 = .ok (.invokevirtual 110, 3) := xh_invokevirtual (by decide +kernel)
theorem dX5_reckon_22 : decode cX5_reckon 22 = .ok (.putfield 18, 3) := xh_putfield (by decide +kernel)
theorem dX5_reckon_27 : decode cX5_reckon 27 = .ok (.putfield 22, 3) := xh_putfield (by decide +kernel)
theorem dX5_reckon_75 : decode cX5_reckon 75 = .ok (.invokevirtual 127, 3) := xh_invokevirtual (by decide +kernel)
theorem dX5_reckon_97 : decode cX5_reckon 97 = .ok (.invokevirtual 131, 3) := xh_invokevirtual (by decide +kernel)
theorem dX5_reckon_100 : decode cX5_reckon 100 = .ok (.invokestatic 135, 3) := xh_invokestatic (by decide +kernel)
theorem dX5_reckon_103 : decode cX5_reckon 103 = .ok (.invokestatic 138, 3) := xh_invokestatic (by decide +kernel)
theorem dX5_scale_24 : decode cX5_scale 24 = .ok (.putfield 22, 3) := xh_putfield (by decide +kernel)
theorem dX5_scale_51 : decode cX5_scale 51 = .ok (.invokestatic 151, 3) := xh_invokestatic (by decide +kernel)
theorem dX5_scale_54 : decode cX5_scale 54 = .ok (.ldc2_w 155, 3) := xh_ldc2_w (by decide +kernel)
theorem dX5_scale_58 : decode cX5_scale 58 = .ok (.invokestatic 151, 3) := xh_invokestatic (by decide +kernel)
theorem dX5_scale_68 : decode cX5_scale 68 = .ok (.putfield 22, 3) := xh_putfield (by decide +kernel)
theorem dX5_soundBits_5 : decode cX5_soundBits 5 = .ok (.invokevirtual 34, 3) := xh_invokevirtual (by decide +kernel)
theorem dX5_soundBits_21 : decode cX5_soundBits 21 = .ok (.invokevirtual 40, 3) := xh_invokevirtual (by decide +kernel)
theorem dX6_init_1 : decode cX6_init 1 = .ok (.invokespecial 3, 3) := xh_invokespecial (by decide +kernel)
theorem dX6_init_6 : decode cX6_init 6 = .ok (.putfield 9, 3) := xh_putfield (by decide +kernel)
theorem dX6_init_11 : decode cX6_init 11 = .ok (.newarray .int, 2) := by decide +kernel
theorem dX6_init_13 : decode cX6_init 13 = .ok (.putfield 15, 3) := xh_putfield (by decide +kernel)
theorem dX6_add_1 : decode cX6_add 1 = .ok (.invokevirtual 19, 3) := xh_invokevirtual (by decide +kernel)
theorem dX6_add_26 : decode cX6_add 26 = .ok (.putfield 9, 3) := xh_putfield (by decide +kernel)
theorem dX6_take_15 : decode cX6_take 15 = .ok (.invokestatic 23, 3) := xh_invokestatic (by decide +kernel)
theorem dX6_take_23 : decode cX6_take 23 = .ok (.putfield 9, 3) := xh_putfield (by decide +kernel)
theorem dX7_init_1 : decode cX7_init 1 = .ok (.invokespecial 3, 3) := xh_invokespecial (by decide +kernel)
theorem dX7_init_6 : decode cX7_init 6 = .ok (.newarray .int, 2) := by decide +kernel
theorem dX7_init_8 : decode cX7_init 8 = .ok (.putfield 9, 3) := xh_putfield (by decide +kernel)
theorem dX7_init_13 : decode cX7_init 13 = .ok (.newarray .int, 2) := by decide +kernel
theorem dX7_init_15 : decode cX7_init 15 = .ok (.putfield 15, 3) := xh_putfield (by decide +kernel)
theorem dX7_init_20 : decode cX7_init 20 = .ok (.newarray .int, 2) := by decide +kernel
theorem dX7_init_22 : decode cX7_init 22 = .ok (.putfield 18, 3) := xh_putfield (by decide +kernel)
theorem dX7_init_27 : decode cX7_init 27 = .ok (.putfield 21, 3) := xh_putfield (by decide +kernel)
theorem dX7_init_32 : decode cX7_init 32 = .ok (.putfield 25, 3) := xh_putfield (by decide +kernel)
theorem dX7_init_37 : decode cX7_init 37 = .ok (.putfield 29, 3) := xh_putfield (by decide +kernel)
theorem dX7_hold_18 : decode cX7_hold 18 = .ok (.invokestatic 38, 3) := xh_invokestatic (by decide +kernel)
theorem dX7_hold_63 : decode cX7_hold 63 = .ok (.invokevirtual 56, 3) := xh_invokevirtual (by decide +kernel)
end
section
theorem dX7_sellVerse_39 : decode cX7_sellVerse 39 = .ok (.invokevirtual 63, 3) := xh_invokevirtual (by decide +kernel)
theorem dX7_sellVerse_65 : decode cX7_sellVerse 65 = .ok (.invokestatic 69, 3) := xh_invokestatic (by decide +kernel)
theorem dX8_init_1 : decode cX8_init 1 = .ok (.invokespecial 3, 3) := xh_invokespecial (by decide +kernel)
theorem dX8_init_6 : decode cX8_init 6 = .ok (.putfield 9, 3) := xh_putfield (by decide +kernel)
theorem dX8_init_11 : decode cX8_init 11 = .ok (.putfield 15, 3) := xh_putfield (by decide +kernel)
theorem dX8_init_16 : decode cX8_init 16 = .ok (.putfield 18, 3) := xh_putfield (by decide +kernel)
theorem dX8_init_21 : decode cX8_init 21 = .ok (.putfield 22, 3) := xh_putfield (by decide +kernel)
theorem dX8_begin_1 : decode cX8_begin 1 = .ok (.invokevirtual 158, 3) := xh_invokevirtual (by decide +kernel)
theorem dX8_begin_12 : decode cX8_begin 12 = .ok (.invokevirtual 67, 3) := xh_invokevirtual (by decide +kernel)
theorem dX8_begin_22 : decode cX8_begin 22 = .ok (.invokevirtual 152, 3) := xh_invokevirtual (by decide +kernel)
theorem dX8_begin_41 : decode cX8_begin 41 = .ok (.invokevirtual 67, 3) := xh_invokevirtual (by decide +kernel)
theorem dX8_begin_55 : decode cX8_begin 55 = .ok (.invokevirtual 167, 3) := xh_invokevirtual (by decide +kernel)
theorem dX8_begin_67 : decode cX8_begin 67 = .ok (.invokevirtual 67, 3) := xh_invokevirtual (by decide +kernel)
theorem dX8_begin_81 : decode cX8_begin 81 = .ok (.invokevirtual 171, 3) := xh_invokevirtual (by decide +kernel)
theorem dX8_begin_89 : decode cX8_begin 89 = .ok (.invokevirtual 152, 3) := xh_invokevirtual (by decide +kernel)
theorem dX8_loneNumber_9 : decode cX8_loneNumber 9 = .ok (.invokevirtual 67, 3) := xh_invokevirtual (by decide +kernel)
theorem dX8_loneNumber_19 : decode cX8_loneNumber 19 = .ok (.invokevirtual 152, 3) := xh_invokevirtual (by decide +kernel)
theorem dX8_loneNumber_25 : decode cX8_loneNumber 25 = .ok (.invokevirtual 86, 3) := xh_invokevirtual (by decide +kernel)
theorem dX8_number_24 : decode cX8_number 24 = .ok (.invokevirtual 67, 3) := xh_invokevirtual (by decide +kernel)
theorem dX8_number_45 : decode cX8_number 45 = .ok (.invokevirtual 67, 3) := xh_invokevirtual (by decide +kernel)
theorem dX8_number_55 : decode cX8_number 55 = .ok (.invokevirtual 152, 3) := xh_invokevirtual (by decide +kernel)
theorem dX8_readBaker_8 : decode cX8_readBaker 8 = .ok (.invokevirtual 78, 3) := xh_invokevirtual (by decide +kernel)
theorem dX8_readBaker_28 : decode cX8_readBaker 28 = .ok (.sipush 999, 3) := by decide +kernel
theorem dX8_readBaker_31 : decode cX8_readBaker 31 = .ok (.invokevirtual 86, 3) := xh_invokevirtual (by decide +kernel)
theorem dX8_readBaker_49 : decode cX8_readBaker 49 = .ok (.invokevirtual 146, 3) := xh_invokevirtual (by decide +kernel)
theorem dX8_readLaw_4 : decode cX8_readLaw 4 = .ok (.invokevirtual 152, 3) := xh_invokevirtual (by decide +kernel)
theorem dX8_readLaw_36 : decode cX8_readLaw 36 = .ok (.invokevirtual 67, 3) := xh_invokevirtual (by decide +kernel)
theorem dX8_readLaw_67 : decode cX8_readLaw 67 = .ok (.invokevirtual 155, 3) := xh_invokevirtual (by decide +kernel)
theorem dX8_readLaw_78 : decode cX8_readLaw 78 = .ok (.invokevirtual 67, 3) := xh_invokevirtual (by decide +kernel)
theorem dX8_readLaw_87 : decode cX8_readLaw 87 = .ok (.invokevirtual 152, 3) := xh_invokevirtual (by decide +kernel)
theorem dX8_readLaw_102 : decode cX8_readLaw 102 = .ok (.invokevirtual 146, 3) := xh_invokevirtual (by decide +kernel)
theorem dX8_readPart_3 : decode cX8_readPart 3 = .ok (.invokevirtual 71, 3) := xh_invokevirtual (by decide +kernel)
theorem dX8_readPart_14 : decode cX8_readPart 14 = .ok (.invokevirtual 67, 3) := xh_invokevirtual (by decide +kernel)
theorem dX8_readPart_37 : decode cX8_readPart 37 = .ok (.invokevirtual 86, 3) := xh_invokevirtual (by decide +kernel)
theorem dX8_readPart_66 : decode cX8_readPart 66 = .ok (.invokevirtual 67, 3) := xh_invokevirtual (by decide +kernel)
theorem dX8_readTavern_8 : decode cX8_readTavern 8 = .ok (.invokevirtual 78, 3) := xh_invokevirtual (by decide +kernel)
theorem dX8_readTavern_30 : decode cX8_readTavern 30 = .ok (.invokevirtual 86, 3) := xh_invokevirtual (by decide +kernel)
theorem dX8_readTavern_44 : decode cX8_readTavern 44 = .ok (.sipush 9999, 3) := by decide +kernel
theorem dX8_readTavern_47 : decode cX8_readTavern 47 = .ok (.invokevirtual 86, 3) := xh_invokevirtual (by decide +kernel)
theorem dX8_readVerse_8 : decode cX8_readVerse 8 = .ok (.invokevirtual 78, 3) := xh_invokevirtual (by decide +kernel)
theorem dX8_readVerse_23 : decode cX8_readVerse 23 = .ok (.invokestatic 121, 3) := xh_invokestatic (by decide +kernel)
theorem dX8_readVerse_26 : decode cX8_readVerse 26 = .ok (.invokevirtual 124, 3) := xh_invokevirtual (by decide +kernel)
theorem dX8_readVerse_54 : decode cX8_readVerse 54 = .ok (.invokevirtual 67, 3) := xh_invokevirtual (by decide +kernel)
theorem dX8_readVoice_8 : decode cX8_readVoice 8 = .ok (.invokevirtual 78, 3) := xh_invokevirtual (by decide +kernel)
theorem dX8_readVoice_30 : decode cX8_readVoice 30 = .ok (.invokevirtual 86, 3) := xh_invokevirtual (by decide +kernel)
theorem dX8_readVoice_54 : decode cX8_readVoice 54 = .ok (.invokevirtual 86, 3) := xh_invokevirtual (by decide +kernel)
theorem dX8_readVoice_91 : decode cX8_readVoice 91 = .ok (.invokevirtual 71, 3) := xh_invokevirtual (by decide +kernel)
theorem dX8_readVoice_109 : decode cX8_readVoice 109 = .ok (.putfield 111, 3) := xh_putfield (by decide +kernel)
theorem dX8_readVoice_115 : decode cX8_readVoice 115 = .ok (.invokevirtual 71, 3) := xh_invokevirtual (by decide +kernel)
theorem dX8_readVoice_130 : decode cX8_readVoice 130 = .ok (.invokevirtual 114, 3) := xh_invokevirtual (by decide +kernel)
theorem dX8_readVoice_146 : decode cX8_readVoice 146 = .ok (.invokevirtual 86, 3) := xh_invokevirtual (by decide +kernel)
theorem dX8_readVoice_153 : decode cX8_readVoice 153 = .ok (.invokevirtual 71, 3) := xh_invokevirtual (by decide +kernel)
theorem dX8_readVoice_171 : decode cX8_readVoice 171 = .ok (.invokevirtual 86, 3) := xh_invokevirtual (by decide +kernel)
theorem dX8_skips_17 : decode cX8_skips 17 = .ok (.invokevirtual 152, 3) := xh_invokevirtual (by decide +kernel)
theorem dX8_tell_4 : decode cX8_tell 4 = .ok (.invokevirtual 26, 3) := xh_invokevirtual (by decide +kernel)
theorem dX8_tell_9 : decode cX8_tell 9 = .ok (.putfield 9, 3) := xh_putfield (by decide +kernel)
theorem dX8_tell_14 : decode cX8_tell 14 = .ok (.putfield 15, 3) := xh_putfield (by decide +kernel)
theorem dX8_tell_22 : decode cX8_tell 22 = .ok (.invokevirtual 31, 3) := xh_invokevirtual (by decide +kernel)
theorem dX8_tell_30 : decode cX8_tell 30 = .ok (.sipush 800, 3) := by decide +kernel
theorem dX8_tell_53 : decode cX8_tell 53 = .ok (.tableswitch 129 17 23 #[43, 50, 57, 64, 71, 97, 122], 43) := by decide +kernel
theorem dX8_tell_97 : decode cX8_tell 97 = .ok (.invokevirtual 41, 3) := xh_invokevirtual (by decide +kernel)
theorem dX8_tell_104 : decode cX8_tell 104 = .ok (.invokevirtual 44, 3) := xh_invokevirtual (by decide +kernel)
theorem dX8_tell_111 : decode cX8_tell 111 = .ok (.invokevirtual 47, 3) := xh_invokevirtual (by decide +kernel)
theorem dX8_tell_118 : decode cX8_tell 118 = .ok (.invokevirtual 50, 3) := xh_invokevirtual (by decide +kernel)
theorem dX8_tell_133 : decode cX8_tell 133 = .ok (.sipush 999, 3) := by decide +kernel
theorem dX8_tell_136 : decode cX8_tell 136 = .ok (.invokevirtual 53, 3) := xh_invokevirtual (by decide +kernel)
theorem dX8_tell_139 : decode cX8_tell 139 = .ok (.putfield 57, 3) := xh_putfield (by decide +kernel)
theorem dX8_tell_144 : decode cX8_tell 144 = .ok (.putfield 9, 3) := xh_putfield (by decide +kernel)
theorem dX8_tell_159 : decode cX8_tell 159 = .ok (.ldc 60, 2) := by decide +kernel
theorem dX8_tell_161 : decode cX8_tell 161 = .ok (.invokevirtual 53, 3) := xh_invokevirtual (by decide +kernel)
theorem dX8_tell_164 : decode cX8_tell 164 = .ok (.putfield 61, 3) := xh_putfield (by decide +kernel)
theorem dX8_tell_169 : decode cX8_tell 169 = .ok (.putfield 15, 3) := xh_putfield (by decide +kernel)
theorem dX8_tell_176 : decode cX8_tell 176 = .ok (.invokevirtual 64, 3) := xh_invokevirtual (by decide +kernel)
theorem dX8_tell_187 : decode cX8_tell 187 = .ok (.invokevirtual 67, 3) := xh_invokevirtual (by decide +kernel)
theorem dX8_tell_193 : decode cX8_tell 193 = .ok (.invokevirtual 71, 3) := xh_invokevirtual (by decide +kernel)
theorem dX8_tell_210 : decode cX8_tell 210 = .ok (.invokevirtual 67, 3) := xh_invokevirtual (by decide +kernel)
theorem dX8_toldTavern_16 : decode cX8_toldTavern 16 = .ok (.invokevirtual 67, 3) := xh_invokevirtual (by decide +kernel)
theorem dX8_toldTavern_36 : decode cX8_toldTavern 36 = .ok (.invokevirtual 167, 3) := xh_invokevirtual (by decide +kernel)
theorem dX8_toldTavern_50 : decode cX8_toldTavern 50 = .ok (.invokevirtual 67, 3) := xh_invokevirtual (by decide +kernel)
theorem dX8_toldTavern_58 : decode cX8_toldTavern 58 = .ok (.invokevirtual 152, 3) := xh_invokevirtual (by decide +kernel)
theorem dX9_init_1 : decode cX9_init 1 = .ok (.invokespecial 3, 3) := xh_invokespecial (by decide +kernel)
theorem dX9_init_7 : decode cX9_init 7 = .ok (.newarray .int, 2) := by decide +kernel
theorem dX9_init_9 : decode cX9_init 9 = .ok (.putfield 9, 3) := xh_putfield (by decide +kernel)
theorem dX9_init_14 : decode cX9_init 14 = .ok (.putfield 15, 3) := xh_putfield (by decide +kernel)
theorem dX9_init_19 : decode cX9_init 19 = .ok (.putfield 19, 3) := xh_putfield (by decide +kernel)
theorem dX9_init_24 : decode cX9_init 24 = .ok (.putfield 22, 3) := xh_putfield (by decide +kernel)
theorem dX9_init_29 : decode cX9_init 29 = .ok (.putfield 25, 3) := xh_putfield (by decide +kernel)
theorem dX9_init_34 : decode cX9_init 34 = .ok (.putfield 28, 3) := xh_putfield (by decide +kernel)
theorem dX9_init_39 : decode cX9_init 39 = .ok (.putfield 31, 3) := xh_putfield (by decide +kernel)
theorem dX9_init_44 : decode cX9_init 44 = .ok (.putfield 34, 3) := xh_putfield (by decide +kernel)
theorem dX9_init_49 : decode cX9_init 49 = .ok (.putfield 37, 3) := xh_putfield (by decide +kernel)
theorem dX9_init_53 : decode cX9_init 53 = .ok (.ldc 41, 2) := by decide +kernel
theorem dX9_init_56 : decode cX9_init 56 = .ok (.invokevirtual 43, 3) := xh_invokevirtual (by decide +kernel)
theorem dX9_init_60 : decode cX9_init 60 = .ok (.ldc 47, 2) := by decide +kernel
theorem dX9_init_64 : decode cX9_init 64 = .ok (.invokevirtual 43, 3) := xh_invokevirtual (by decide +kernel)
theorem dX9_fail_9 : decode cX9_fail 9 = .ok (.putfield 31, 3) := xh_putfield (by decide +kernel)
theorem dX9_fail_17 : decode cX9_fail 17 = .ok (.putfield 34, 3) := xh_putfield (by decide +kernel)
theorem dX9_fail_22 : decode cX9_fail 22 = .ok (.putfield 22, 3) := xh_putfield (by decide +kernel)
theorem dX9_next_54 : decode cX9_next 54 = .ok (.putfield 19, 3) := xh_putfield (by decide +kernel)
theorem dX9_next_65 : decode cX9_next 65 = .ok (.putfield 25, 3) := xh_putfield (by decide +kernel)
theorem dX9_next_70 : decode cX9_next 70 = .ok (.putfield 28, 3) := xh_putfield (by decide +kernel)
theorem dX9_next_86 : decode cX9_next 86 = .ok (.putfield 22, 3) := xh_putfield (by decide +kernel)
theorem dX9_next_101 : decode cX9_next 101 = .ok (.invokestatic 68, 3) := xh_invokestatic (by decide +kernel)
theorem dX9_next_108 : decode cX9_next 108 = .ok (.invokevirtual 72, 3) := xh_invokevirtual (by decide +kernel)
theorem dX9_next_123 : decode cX9_next 123 = .ok (.invokestatic 75, 3) := xh_invokestatic (by decide +kernel)
theorem dX9_next_130 : decode cX9_next 130 = .ok (.invokevirtual 78, 3) := xh_invokevirtual (by decide +kernel)
theorem dX9_next_137 : decode cX9_next 137 = .ok (.invokevirtual 81, 3) := xh_invokevirtual (by decide +kernel)
theorem dX9_packWords_12 : decode cX9_packWords 12 = .ok (.invokevirtual 49, 3) := xh_invokevirtual (by decide +kernel)
theorem dX9_packWords_27 : decode cX9_packWords 27 = .ok (.invokevirtual 55, 3) := xh_invokevirtual (by decide +kernel)
theorem dX9_readNumber_20 : decode cX9_readNumber 20 = .ok (.invokestatic 75, 3) := xh_invokestatic (by decide +kernel)
theorem dX9_readNumber_47 : decode cX9_readNumber 47 = .ok (.ldc 84, 2) := by decide +kernel
theorem dX9_readNumber_49 : decode cX9_readNumber 49 = .ok (.invokestatic 59, 3) := xh_invokestatic (by decide +kernel)
theorem dX9_readNumber_52 : decode cX9_readNumber 52 = .ok (.putfield 28, 3) := xh_putfield (by decide +kernel)
theorem dX9_readNumber_62 : decode cX9_readNumber 62 = .ok (.putfield 19, 3) := xh_putfield (by decide +kernel)
theorem dX9_readNumber_70 : decode cX9_readNumber 70 = .ok (.putfield 22, 3) := xh_putfield (by decide +kernel)
theorem dX9_readSign_40 : decode cX9_readSign 40 = .ok (.invokestatic 85, 3) := xh_invokestatic (by decide +kernel)
theorem dX9_readSign_43 : decode cX9_readSign 43 = .ok (.putfield 22, 3) := xh_putfield (by decide +kernel)
theorem dX9_readSign_94 : decode cX9_readSign 94 = .ok (.putfield 19, 3) := xh_putfield (by decide +kernel)
theorem dX9_readWord_23 : decode cX9_readWord 23 = .ok (.invokestatic 68, 3) := xh_invokestatic (by decide +kernel)
theorem dX9_readWord_55 : decode cX9_readWord 55 = .ok (.putfield 28, 3) := xh_putfield (by decide +kernel)
theorem dX9_readWord_68 : decode cX9_readWord 68 = .ok (.putfield 19, 3) := xh_putfield (by decide +kernel)
theorem dX9_readWord_86 : decode cX9_readWord 86 = .ok (.putfield 22, 3) := xh_putfield (by decide +kernel)
theorem dX9_readWord_123 : decode cX9_readWord 123 = .ok (.putfield 22, 3) := xh_putfield (by decide +kernel)
theorem dX9_signKind_1 : decode cX9_signKind 1 = .ok (.tableswitch 168 40 62 #[109, 111, 162, 156, 168, 159, 168, 165, 168, 168, 168, 168, 168, 168, 168, 168, 168, 168, 168, 107, 114, 139, 142], 107) := by decide +kernel
theorem dX9_start_7 : decode cX9_start 7 = .ok (.invokestatic 59, 3) := xh_invokestatic (by decide +kernel)
theorem dX9_start_10 : decode cX9_start 10 = .ok (.putfield 15, 3) := xh_putfield (by decide +kernel)
theorem dX9_start_15 : decode cX9_start 15 = .ok (.putfield 19, 3) := xh_putfield (by decide +kernel)
theorem dX9_start_20 : decode cX9_start 20 = .ok (.putfield 31, 3) := xh_putfield (by decide +kernel)
theorem dX9_start_25 : decode cX9_start 25 = .ok (.putfield 34, 3) := xh_putfield (by decide +kernel)
theorem dX9_start_29 : decode cX9_start 29 = .ok (.invokevirtual 65, 3) := xh_invokevirtual (by decide +kernel)
theorem dX10_init_1 : decode cX10_init 1 = .ok (.invokespecial 3, 3) := xh_invokespecial (by decide +kernel)
theorem dX10_init_6 : decode cX10_init 6 = .ok (.newarray .int, 2) := by decide +kernel
theorem dX10_init_8 : decode cX10_init 8 = .ok (.putfield 9, 3) := xh_putfield (by decide +kernel)
theorem dX10_init_14 : decode cX10_init 14 = .ok (.newarray .int, 2) := by decide +kernel
theorem dX10_init_16 : decode cX10_init 16 = .ok (.putfield 15, 3) := xh_putfield (by decide +kernel)
theorem dX10_init_21 : decode cX10_init 21 = .ok (.newarray .int, 2) := by decide +kernel
theorem dX10_init_23 : decode cX10_init 23 = .ok (.putfield 18, 3) := xh_putfield (by decide +kernel)
theorem dX10_init_29 : decode cX10_init 29 = .ok (.newarray .int, 2) := by decide +kernel
theorem dX10_init_31 : decode cX10_init 31 = .ok (.putfield 21, 3) := xh_putfield (by decide +kernel)
theorem dX10_init_37 : decode cX10_init 37 = .ok (.newarray .int, 2) := by decide +kernel
theorem dX10_init_39 : decode cX10_init 39 = .ok (.putfield 24, 3) := xh_putfield (by decide +kernel)
theorem dX10_init_45 : decode cX10_init 45 = .ok (.newarray .int, 2) := by decide +kernel
theorem dX10_init_47 : decode cX10_init 47 = .ok (.putfield 27, 3) := xh_putfield (by decide +kernel)
theorem dX10_init_52 : decode cX10_init 52 = .ok (.putfield 30, 3) := xh_putfield (by decide +kernel)
theorem dX10_init_57 : decode cX10_init 57 = .ok (.putfield 34, 3) := xh_putfield (by decide +kernel)
theorem dX10_init_62 : decode cX10_init 62 = .ok (.putfield 37, 3) := xh_putfield (by decide +kernel)
theorem dX10_init_67 : decode cX10_init 67 = .ok (.putfield 40, 3) := xh_putfield (by decide +kernel)
theorem dX10_init_72 : decode cX10_init 72 = .ok (.putfield 43, 3) := xh_putfield (by decide +kernel)
theorem dX10_init_77 : decode cX10_init 77 = .ok (.putfield 46, 3) := xh_putfield (by decide +kernel)
theorem dX10_init_82 : decode cX10_init 82 = .ok (.putfield 49, 3) := xh_putfield (by decide +kernel)
theorem dX10_begin_5 : decode cX10_begin 5 = .ok (.invokestatic 52, 3) := xh_invokestatic (by decide +kernel)
theorem dX10_begin_13 : decode cX10_begin 13 = .ok (.invokestatic 52, 3) := xh_invokestatic (by decide +kernel)
theorem dX10_begin_21 : decode cX10_begin 21 = .ok (.invokestatic 52, 3) := xh_invokestatic (by decide +kernel)
theorem dX10_begin_41 : decode cX10_begin 41 = .ok (.invokestatic 70, 3) := xh_invokestatic (by decide +kernel)
theorem dX10_begin_61 : decode cX10_begin 61 = .ok (.invokestatic 70, 3) := xh_invokestatic (by decide +kernel)
theorem dX10_begin_65 : decode cX10_begin 65 = .ok (.invokevirtual 80, 3) := xh_invokevirtual (by decide +kernel)
theorem dX10_begin_70 : decode cX10_begin 70 = .ok (.putfield 34, 3) := xh_putfield (by decide +kernel)
theorem dX10_begin_78 : decode cX10_begin 78 = .ok (.putfield 37, 3) := xh_putfield (by decide +kernel)
theorem dX10_begin_83 : decode cX10_begin 83 = .ok (.putfield 40, 3) := xh_putfield (by decide +kernel)
theorem dX10_begin_88 : decode cX10_begin 88 = .ok (.putfield 43, 3) := xh_putfield (by decide +kernel)
theorem dX10_begin_93 : decode cX10_begin 93 = .ok (.putfield 46, 3) := xh_putfield (by decide +kernel)
theorem dX10_begin_101 : decode cX10_begin 101 = .ok (.putfield 49, 3) := xh_putfield (by decide +kernel)
theorem dX10_dismiss_15 : decode cX10_dismiss 15 = .ok (.putfield 30, 3) := xh_putfield (by decide +kernel)
theorem dX10_dismiss_48 : decode cX10_dismiss 48 = .ok (.putfield 37, 3) := xh_putfield (by decide +kernel)
theorem dX10_dismissAll_2 : decode cX10_dismissAll 2 = .ok (.putfield 30, 3) := xh_putfield (by decide +kernel)
theorem dX10_dismissAll_10 : decode cX10_dismissAll 10 = .ok (.invokestatic 52, 3) := xh_invokestatic (by decide +kernel)
theorem dX10_enlist_44 : decode cX10_enlist 44 = .ok (.putfield 30, 3) := xh_putfield (by decide +kernel)
theorem dX10_enlist_54 : decode cX10_enlist 54 = .ok (.putfield 37, 3) := xh_putfield (by decide +kernel)
theorem dX10_nextNumber_6 : decode cX10_nextNumber 6 = .ok (.ldc2_w 87, 3) := xh_ldc2_w (by decide +kernel)
end
section
theorem dX10_nextNumber_10 : decode cX10_nextNumber 10 = .ok (.ldc2_w 89, 3) := xh_ldc2_w (by decide +kernel)
theorem dX10_nextNumber_14 : decode cX10_nextNumber 14 = .ok (.ldc2_w 91, 3) := xh_ldc2_w (by decide +kernel)
theorem dX10_nextNumber_19 : decode cX10_nextNumber 19 = .ok (.putfield 49, 3) := xh_putfield (by decide +kernel)
theorem dX10_nextNumber_26 : decode cX10_nextNumber 26 = .ok (.ldc 93, 2) := by decide +kernel
theorem dX10_take_15 : decode cX10_take 15 = .ok (.invokestatic 70, 3) := xh_invokestatic (by decide +kernel)
theorem dX10_take_33 : decode cX10_take 33 = .ok (.invokestatic 70, 3) := xh_invokestatic (by decide +kernel)
theorem dX10_take_51 : decode cX10_take 51 = .ok (.invokestatic 70, 3) := xh_invokestatic (by decide +kernel)
theorem dX10_take_69 : decode cX10_take 69 = .ok (.invokestatic 70, 3) := xh_invokestatic (by decide +kernel)
theorem dX10_take_87 : decode cX10_take 87 = .ok (.invokestatic 70, 3) := xh_invokestatic (by decide +kernel)
theorem dX10_take_105 : decode cX10_take 105 = .ok (.invokestatic 70, 3) := xh_invokestatic (by decide +kernel)
theorem dX10_take_113 : decode cX10_take 113 = .ok (.putfield 30, 3) := xh_putfield (by decide +kernel)
theorem dX10_take_121 : decode cX10_take 121 = .ok (.putfield 34, 3) := xh_putfield (by decide +kernel)
theorem dX10_take_129 : decode cX10_take 129 = .ok (.putfield 37, 3) := xh_putfield (by decide +kernel)
theorem dX10_take_137 : decode cX10_take 137 = .ok (.putfield 40, 3) := xh_putfield (by decide +kernel)
theorem dX10_take_145 : decode cX10_take 145 = .ok (.putfield 43, 3) := xh_putfield (by decide +kernel)
theorem dX10_take_153 : decode cX10_take 153 = .ok (.putfield 46, 3) := xh_putfield (by decide +kernel)
theorem dX10_take_161 : decode cX10_take 161 = .ok (.putfield 49, 3) := xh_putfield (by decide +kernel)
theorem dX12_init_1 : decode cX12_init 1 = .ok (.invokespecial 1, 3) := xh_invokespecial (by decide +kernel)
theorem dX12_init_5 : decode cX12_init 5 = .ok (.sipush 800, 3) := by decide +kernel
theorem dX12_init_8 : decode cX12_init 8 = .ok (.newarray .int, 2) := by decide +kernel
theorem dX12_init_10 : decode cX12_init 10 = .ok (.putfield 7, 3) := xh_putfield (by decide +kernel)
theorem dX12_init_16 : decode cX12_init 16 = .ok (.newarray .int, 2) := by decide +kernel
theorem dX12_init_18 : decode cX12_init 18 = .ok (.putfield 13, 3) := xh_putfield (by decide +kernel)
theorem dX12_init_24 : decode cX12_init 24 = .ok (.newarray .int, 2) := by decide +kernel
theorem dX12_init_26 : decode cX12_init 26 = .ok (.putfield 16, 3) := xh_putfield (by decide +kernel)
theorem dX12_init_32 : decode cX12_init 32 = .ok (.newarray .int, 2) := by decide +kernel
theorem dX12_init_34 : decode cX12_init 34 = .ok (.putfield 19, 3) := xh_putfield (by decide +kernel)
theorem dX12_init_40 : decode cX12_init 40 = .ok (.newarray .int, 2) := by decide +kernel
theorem dX12_init_42 : decode cX12_init 42 = .ok (.putfield 22, 3) := xh_putfield (by decide +kernel)
theorem dX12_init_48 : decode cX12_init 48 = .ok (.newarray .int, 2) := by decide +kernel
theorem dX12_init_50 : decode cX12_init 50 = .ok (.putfield 25, 3) := xh_putfield (by decide +kernel)
theorem dX12_init_56 : decode cX12_init 56 = .ok (.newarray .int, 2) := by decide +kernel
theorem dX12_init_58 : decode cX12_init 58 = .ok (.putfield 28, 3) := xh_putfield (by decide +kernel)
theorem dX12_init_64 : decode cX12_init 64 = .ok (.newarray .int, 2) := by decide +kernel
theorem dX12_init_66 : decode cX12_init 66 = .ok (.putfield 31, 3) := xh_putfield (by decide +kernel)
theorem dX12_init_72 : decode cX12_init 72 = .ok (.newarray .boolean, 2) := by decide +kernel
theorem dX12_init_74 : decode cX12_init 74 = .ok (.putfield 34, 3) := xh_putfield (by decide +kernel)
theorem dX12_init_80 : decode cX12_init 80 = .ok (.newarray .int, 2) := by decide +kernel
theorem dX12_init_136 : decode cX12_init 136 = .ok (.putfield 38, 3) := xh_putfield (by decide +kernel)
theorem dX12_init_142 : decode cX12_init 142 = .ok (.newarray .int, 2) := by decide +kernel
theorem dX12_init_144 : decode cX12_init 144 = .ok (.putfield 41, 3) := xh_putfield (by decide +kernel)
theorem dX12_init_150 : decode cX12_init 150 = .ok (.newarray .int, 2) := by decide +kernel
theorem dX12_init_152 : decode cX12_init 152 = .ok (.putfield 44, 3) := xh_putfield (by decide +kernel)
theorem dX12_init_158 : decode cX12_init 158 = .ok (.newarray .int, 2) := by decide +kernel
theorem dX12_init_160 : decode cX12_init 160 = .ok (.putfield 47, 3) := xh_putfield (by decide +kernel)
theorem dX12_init_166 : decode cX12_init 166 = .ok (.newarray .int, 2) := by decide +kernel
theorem dX12_init_168 : decode cX12_init 168 = .ok (.putfield 50, 3) := xh_putfield (by decide +kernel)
theorem dX12_init_174 : decode cX12_init 174 = .ok (.newarray .int, 2) := by decide +kernel
theorem dX12_init_176 : decode cX12_init 176 = .ok (.putfield 53, 3) := xh_putfield (by decide +kernel)
theorem dX12_init_180 : decode cX12_init 180 = .ok (.sipush 192, 3) := by decide +kernel
theorem dX12_init_183 : decode cX12_init 183 = .ok (.newarray .int, 2) := by decide +kernel
theorem dX12_init_185 : decode cX12_init 185 = .ok (.putfield 56, 3) := xh_putfield (by decide +kernel)
theorem dX12_init_191 : decode cX12_init 191 = .ok (.newarray .int, 2) := by decide +kernel
theorem dX12_init_193 : decode cX12_init 193 = .ok (.putfield 59, 3) := xh_putfield (by decide +kernel)
theorem dX12_init_199 : decode cX12_init 199 = .ok (.newarray .int, 2) := by decide +kernel
theorem dX12_init_201 : decode cX12_init 201 = .ok (.putfield 62, 3) := xh_putfield (by decide +kernel)
theorem dX12_init_207 : decode cX12_init 207 = .ok (.newarray .int, 2) := by decide +kernel
theorem dX12_init_209 : decode cX12_init 209 = .ok (.putfield 65, 3) := xh_putfield (by decide +kernel)
theorem dX12_init_215 : decode cX12_init 215 = .ok (.newarray .int, 2) := by decide +kernel
theorem dX12_init_217 : decode cX12_init 217 = .ok (.putfield 68, 3) := xh_putfield (by decide +kernel)
theorem dX12_init_221 : decode cX12_init 221 = .ok (.sipush 128, 3) := by decide +kernel
theorem dX12_init_224 : decode cX12_init 224 = .ok (.newarray .int, 2) := by decide +kernel
theorem dX12_init_226 : decode cX12_init 226 = .ok (.putfield 71, 3) := xh_putfield (by decide +kernel)
theorem dX12_init_230 : decode cX12_init 230 = .ok (.sipush 128, 3) := by decide +kernel
theorem dX12_init_233 : decode cX12_init 233 = .ok (.newarray .int, 2) := by decide +kernel
theorem dX12_init_235 : decode cX12_init 235 = .ok (.putfield 74, 3) := xh_putfield (by decide +kernel)
theorem dX12_init_240 : decode cX12_init 240 = .ok (.putfield 77, 3) := xh_putfield (by decide +kernel)
theorem dX12_init_245 : decode cX12_init 245 = .ok (.newarray .int, 2) := by decide +kernel
theorem dX12_init_247 : decode cX12_init 247 = .ok (.putfield 81, 3) := xh_putfield (by decide +kernel)
theorem dX12_init_252 : decode cX12_init 252 = .ok (.newarray .int, 2) := by decide +kernel
theorem dX12_init_254 : decode cX12_init 254 = .ok (.putfield 84, 3) := xh_putfield (by decide +kernel)
theorem dX12_init_259 : decode cX12_init 259 = .ok (.newarray .int, 2) := by decide +kernel
theorem dX12_init_261 : decode cX12_init 261 = .ok (.putfield 87, 3) := xh_putfield (by decide +kernel)
theorem dX12_init_266 : decode cX12_init 266 = .ok (.newarray .int, 2) := by decide +kernel
theorem dX12_init_268 : decode cX12_init 268 = .ok (.putfield 90, 3) := xh_putfield (by decide +kernel)
theorem dX12_init_273 : decode cX12_init 273 = .ok (.newarray .int, 2) := by decide +kernel
theorem dX12_init_275 : decode cX12_init 275 = .ok (.putfield 93, 3) := xh_putfield (by decide +kernel)
theorem dX12_init_281 : decode cX12_init 281 = .ok (.newarray .int, 2) := by decide +kernel
theorem dX12_init_283 : decode cX12_init 283 = .ok (.putfield 96, 3) := xh_putfield (by decide +kernel)
theorem dX12_init_289 : decode cX12_init 289 = .ok (.newarray .int, 2) := by decide +kernel
theorem dX12_init_291 : decode cX12_init 291 = .ok (.putfield 99, 3) := xh_putfield (by decide +kernel)
theorem dX12_init_297 : decode cX12_init 297 = .ok (.newarray .int, 2) := by decide +kernel
theorem dX12_init_299 : decode cX12_init 299 = .ok (.putfield 102, 3) := xh_putfield (by decide +kernel)
theorem dX12_init_305 : decode cX12_init 305 = .ok (.newarray .int, 2) := by decide +kernel
theorem dX12_init_307 : decode cX12_init 307 = .ok (.putfield 105, 3) := xh_putfield (by decide +kernel)
theorem dX12_init_312 : decode cX12_init 312 = .ok (.newarray .int, 2) := by decide +kernel
theorem dX12_init_314 : decode cX12_init 314 = .ok (.putfield 108, 3) := xh_putfield (by decide +kernel)
theorem dX12_init_320 : decode cX12_init 320 = .ok (.newarray .int, 2) := by decide +kernel
theorem dX12_init_322 : decode cX12_init 322 = .ok (.putfield 111, 3) := xh_putfield (by decide +kernel)
theorem dX12_init_328 : decode cX12_init 328 = .ok (.newarray .int, 2) := by decide +kernel
theorem dX12_init_330 : decode cX12_init 330 = .ok (.putfield 114, 3) := xh_putfield (by decide +kernel)
theorem dX12_init_336 : decode cX12_init 336 = .ok (.newarray .long, 2) := by decide +kernel
theorem dX12_init_338 : decode cX12_init 338 = .ok (.putfield 117, 3) := xh_putfield (by decide +kernel)
theorem dX12_init_344 : decode cX12_init 344 = .ok (.newarray .long, 2) := by decide +kernel
theorem dX12_init_346 : decode cX12_init 346 = .ok (.putfield 121, 3) := xh_putfield (by decide +kernel)
theorem dX12_init_350 : decode cX12_init 350 = .ok (.sipush 5000, 3) := by decide +kernel
theorem dX12_init_353 : decode cX12_init 353 = .ok (.newarray .int, 2) := by decide +kernel
theorem dX12_init_355 : decode cX12_init 355 = .ok (.putfield 124, 3) := xh_putfield (by decide +kernel)
theorem dX12_init_359 : decode cX12_init 359 = .ok (.sipush 5000, 3) := by decide +kernel
theorem dX12_init_362 : decode cX12_init 362 = .ok (.newarray .int, 2) := by decide +kernel
theorem dX12_init_364 : decode cX12_init 364 = .ok (.putfield 127, 3) := xh_putfield (by decide +kernel)
theorem dX12_init_370 : decode cX12_init 370 = .ok (.newarray .int, 2) := by decide +kernel
theorem dX12_init_372 : decode cX12_init 372 = .ok (.putfield 130, 3) := xh_putfield (by decide +kernel)
theorem dX12_init_378 : decode cX12_init 378 = .ok (.newarray .int, 2) := by decide +kernel
theorem dX12_init_380 : decode cX12_init 380 = .ok (.putfield 133, 3) := xh_putfield (by decide +kernel)
theorem dX12_init_385 : decode cX12_init 385 = .ok (.newarray .int, 2) := by decide +kernel
theorem dX12_init_387 : decode cX12_init 387 = .ok (.putfield 136, 3) := xh_putfield (by decide +kernel)
theorem dX12_init_392 : decode cX12_init 392 = .ok (.newarray .int, 2) := by decide +kernel
theorem dX12_init_394 : decode cX12_init 394 = .ok (.putfield 139, 3) := xh_putfield (by decide +kernel)
theorem dX12_init_399 : decode cX12_init 399 = .ok (.putfield 142, 3) := xh_putfield (by decide +kernel)
theorem dX12_init_405 : decode cX12_init 405 = .ok (.newarray .int, 2) := by decide +kernel
theorem dX12_init_407 : decode cX12_init 407 = .ok (.putfield 145, 3) := xh_putfield (by decide +kernel)
theorem dX12_init_413 : decode cX12_init 413 = .ok (.newarray .int, 2) := by decide +kernel
theorem dX12_init_415 : decode cX12_init 415 = .ok (.putfield 148, 3) := xh_putfield (by decide +kernel)
theorem dX12_init_421 : decode cX12_init 421 = .ok (.newarray .boolean, 2) := by decide +kernel
theorem dX12_init_423 : decode cX12_init 423 = .ok (.putfield 151, 3) := xh_putfield (by decide +kernel)
theorem dX12_init_428 : decode cX12_init 428 = .ok (.newarray .int, 2) := by decide +kernel
theorem dX12_init_430 : decode cX12_init 430 = .ok (.putfield 154, 3) := xh_putfield (by decide +kernel)
theorem dX12_init_435 : decode cX12_init 435 = .ok (.newarray .int, 2) := by decide +kernel
theorem dX12_init_437 : decode cX12_init 437 = .ok (.putfield 157, 3) := xh_putfield (by decide +kernel)
theorem dX12_init_441 : decode cX12_init 441 = .ok (.invokevirtual 160, 3) := xh_invokevirtual (by decide +kernel)
theorem dX12_back_2 : decode cX12_back 2 = .ok (.putfield 163, 3) := xh_putfield (by decide +kernel)
theorem dX12_back_17 : decode cX12_back 17 = .ok (.invokevirtual 508, 3) := xh_invokevirtual (by decide +kernel)
theorem dX12_bar_2 : decode cX12_bar 2 = .ok (.putfield 163, 3) := xh_putfield (by decide +kernel)
theorem dX12_bar_7 : decode cX12_bar 7 = .ok (.invokevirtual 332, 3) := xh_invokevirtual (by decide +kernel)
theorem dX12_bar_71 : decode cX12_bar 71 = .ok (.invokevirtual 381, 3) := xh_invokevirtual (by decide +kernel)
theorem dX12_best_2 : decode cX12_best 2 = .ok (.putfield 163, 3) := xh_putfield (by decide +kernel)
theorem dX12_best_6 : decode cX12_best 6 = .ok (.invokestatic 446, 3) := xh_invokestatic (by decide +kernel)
theorem dX12_best_25 : decode cX12_best 25 = .ok (.invokevirtual 449, 3) := xh_invokevirtual (by decide +kernel)
theorem dX12_bidOf_92 : decode cX12_bidOf 92 = .ok (.invokevirtual 393, 3) := xh_invokevirtual (by decide +kernel)
theorem dX12_bidOf_115 : decode cX12_bidOf 115 = .ok (.invokevirtual 393, 3) := xh_invokevirtual (by decide +kernel)
theorem dX12_bidOf_136 : decode cX12_bidOf 136 = .ok (.invokevirtual 396, 3) := xh_invokevirtual (by decide +kernel)
theorem dX12_bidOf_140 : decode cX12_bidOf 140 = .ok (.invokestatic 375, 3) := xh_invokestatic (by decide +kernel)
theorem dX12_bidOf_155 : decode cX12_bidOf 155 = .ok (.sipush 999, 3) := by decide +kernel
theorem dX12_bidOf_159 : decode cX12_bidOf 159 = .ok (.invokevirtual 399, 3) := xh_invokevirtual (by decide +kernel)
theorem dX12_bidOf_162 : decode cX12_bidOf 162 = .ok (.invokestatic 403, 3) := xh_invokestatic (by decide +kernel)
theorem dX12_bids_2 : decode cX12_bids 2 = .ok (.putfield 163, 3) := xh_putfield (by decide +kernel)
theorem dX12_bids_21 : decode cX12_bids 21 = .ok (.invokevirtual 332, 3) := xh_invokevirtual (by decide +kernel)
theorem dX12_bids_36 : decode cX12_bids 36 = .ok (.invokevirtual 408, 3) := xh_invokevirtual (by decide +kernel)
theorem dX12_chosen_2 : decode cX12_chosen 2 = .ok (.putfield 163, 3) := xh_putfield (by decide +kernel)
theorem dX12_chosen_6 : decode cX12_chosen 6 = .ok (.invokestatic 446, 3) := xh_invokestatic (by decide +kernel)
theorem dX12_chosen_15 : decode cX12_chosen 15 = .ok (.invokevirtual 344, 3) := xh_invokevirtual (by decide +kernel)
theorem dX12_chosen_25 : decode cX12_chosen 25 = .ok (.invokevirtual 449, 3) := xh_invokevirtual (by decide +kernel)
theorem dX12_chosen_41 : decode cX12_chosen 41 = .ok (.invokevirtual 427, 3) := xh_invokevirtual (by decide +kernel)
theorem dX12_chosen_47 : decode cX12_chosen 47 = .ok (.invokevirtual 430, 3) := xh_invokevirtual (by decide +kernel)
theorem dX12_chosen_58 : decode cX12_chosen 58 = .ok (.invokevirtual 452, 3) := xh_invokevirtual (by decide +kernel)
theorem dX12_chosen_67 : decode cX12_chosen 67 = .ok (.invokevirtual 443, 3) := xh_invokevirtual (by decide +kernel)
theorem dX12_chosen_79 : decode cX12_chosen 79 = .ok (.invokevirtual 433, 3) := xh_invokevirtual (by decide +kernel)
theorem dX12_conjunction_1 : decode cX12_conjunction 1 = .ok (.invokevirtual 300, 3) := xh_invokevirtual (by decide +kernel)
theorem dX12_conjunction_7 : decode cX12_conjunction 7 = .ok (.invokevirtual 279, 3) := xh_invokevirtual (by decide +kernel)
theorem dX12_conjunction_14 : decode cX12_conjunction 14 = .ok (.invokevirtual 294, 3) := xh_invokevirtual (by decide +kernel)
theorem dX12_conjunction_18 : decode cX12_conjunction 18 = .ok (.invokevirtual 237, 3) := xh_invokevirtual (by decide +kernel)
theorem dX12_conjunction_22 : decode cX12_conjunction 22 = .ok (.invokevirtual 300, 3) := xh_invokevirtual (by decide +kernel)
theorem dX12_conjunction_27 : decode cX12_conjunction 27 = .ok (.sipush 261, 3) := by decide +kernel
theorem dX12_conjunction_30 : decode cX12_conjunction 30 = .ok (.invokevirtual 297, 3) := xh_invokevirtual (by decide +kernel)
theorem dX12_count_2 : decode cX12_count 2 = .ok (.putfield 163, 3) := xh_putfield (by decide +kernel)
theorem dX12_count_8 : decode cX12_count 8 = .ok (.tableswitch 211 0 11 #[64, 71, 78, 85, 92, 100, 107, 114, 121, 126, 131, 141], 64) := by decide +kernel
theorem dX12_count_135 : decode cX12_count 135 = .ok (.invokevirtual 467, 3) := xh_invokevirtual (by decide +kernel)
theorem dX12_count_145 : decode cX12_count 145 = .ok (.invokestatic 485, 3) := xh_invokestatic (by decide +kernel)
theorem dX12_crackOf_2 : decode cX12_crackOf 2 = .ok (.invokevirtual 387, 3) := xh_invokevirtual (by decide +kernel)
theorem dX12_crackOf_25 : decode cX12_crackOf 25 = .ok (.invokevirtual 399, 3) := xh_invokevirtual (by decide +kernel)
theorem dX12_cracks_2 : decode cX12_cracks 2 = .ok (.putfield 163, 3) := xh_putfield (by decide +kernel)
theorem dX12_cracks_7 : decode cX12_cracks 7 = .ok (.invokevirtual 335, 3) := xh_invokevirtual (by decide +kernel)
theorem dX12_cracks_16 : decode cX12_cracks 16 = .ok (.invokevirtual 411, 3) := xh_invokevirtual (by decide +kernel)
theorem dX12_draw_11 : decode cX12_draw 11 = .ok (.ldc_w 417, 3) := by decide +kernel
theorem dX12_draw_15 : decode cX12_draw 15 = .ok (.sipush 12345, 3) := by decide +kernel
theorem dX12_draw_19 : decode cX12_draw 19 = .ok (.ldc_w 420, 3) := by decide +kernel
theorem dX12_due_2 : decode cX12_due 2 = .ok (.putfield 163, 3) := xh_putfield (by decide +kernel)
theorem dX12_due_8 : decode cX12_due 8 = .ok (.invokevirtual 344, 3) := xh_invokevirtual (by decide +kernel)
theorem dX12_due_16 : decode cX12_due 16 = .ok (.invokevirtual 335, 3) := xh_invokevirtual (by decide +kernel)
theorem dX12_due_29 : decode cX12_due 29 = .ok (.invokevirtual 405, 3) := xh_invokevirtual (by decide +kernel)
theorem dX12_dueOf_14 : decode cX12_dueOf 14 = .ok (.invokevirtual 387, 3) := xh_invokevirtual (by decide +kernel)
end
section
theorem dX12_dueOf_25 : decode cX12_dueOf 25 = .ok (.invokevirtual 390, 3) := xh_invokevirtual (by decide +kernel)
theorem dX12_dueOf_37 : decode cX12_dueOf 37 = .ok (.invokevirtual 393, 3) := xh_invokevirtual (by decide +kernel)
theorem dX12_dueOf_49 : decode cX12_dueOf 49 = .ok (.invokevirtual 396, 3) := xh_invokevirtual (by decide +kernel)
theorem dX12_dueOf_72 : decode cX12_dueOf 72 = .ok (.sipush 999, 3) := by decide +kernel
theorem dX12_dueOf_81 : decode cX12_dueOf 81 = .ok (.invokevirtual 399, 3) := xh_invokevirtual (by decide +kernel)
theorem dX12_easter_2 : decode cX12_easter 2 = .ok (.putfield 163, 3) := xh_putfield (by decide +kernel)
theorem dX12_easter_7 : decode cX12_easter 7 = .ok (.invokevirtual 461, 3) := xh_invokevirtual (by decide +kernel)
theorem dX12_easter_25 : decode cX12_easter 25 = .ok (.invokevirtual 464, 3) := xh_invokevirtual (by decide +kernel)
theorem dX12_entry_2 : decode cX12_entry 2 = .ok (.putfield 163, 3) := xh_putfield (by decide +kernel)
theorem dX12_entry_8 : decode cX12_entry 8 = .ok (.invokevirtual 344, 3) := xh_invokevirtual (by decide +kernel)
theorem dX12_entry_17 : decode cX12_entry 17 = .ok (.invokestatic 498, 3) := xh_invokestatic (by decide +kernel)
theorem dX12_entry_38 : decode cX12_entry 38 = .ok (.putfield 491, 3) := xh_putfield (by decide +kernel)
theorem dX12_entry_52 : decode cX12_entry 52 = .ok (.invokevirtual 494, 3) := xh_invokevirtual (by decide +kernel)
theorem dX12_expression_1 : decode cX12_expression 1 = .ok (.invokevirtual 291, 3) := xh_invokevirtual (by decide +kernel)
theorem dX12_expression_7 : decode cX12_expression 7 = .ok (.invokevirtual 279, 3) := xh_invokevirtual (by decide +kernel)
theorem dX12_expression_14 : decode cX12_expression 14 = .ok (.invokevirtual 294, 3) := xh_invokevirtual (by decide +kernel)
theorem dX12_expression_18 : decode cX12_expression 18 = .ok (.invokevirtual 237, 3) := xh_invokevirtual (by decide +kernel)
theorem dX12_expression_22 : decode cX12_expression 22 = .ok (.invokevirtual 291, 3) := xh_invokevirtual (by decide +kernel)
theorem dX12_expression_27 : decode cX12_expression 27 = .ok (.sipush 262, 3) := by decide +kernel
theorem dX12_expression_30 : decode cX12_expression 30 = .ok (.invokevirtual 297, 3) := xh_invokevirtual (by decide +kernel)
theorem dX12_fault_2 : decode cX12_fault 2 = .ok (.putfield 163, 3) := xh_putfield (by decide +kernel)
theorem dX12_feed_2 : decode cX12_feed 2 = .ok (.putfield 163, 3) := xh_putfield (by decide +kernel)
theorem dX12_feed_9 : decode cX12_feed 9 = .ok (.sipush 780, 3) := by decide +kernel
theorem dX12_feed_99 : decode cX12_feed 99 = .ok (.sipush 255, 3) := by decide +kernel
theorem dX12_feed_118 : decode cX12_feed 118 = .ok (.putfield 166, 3) := xh_putfield (by decide +kernel)
theorem dX12_fresh_19 : decode cX12_fresh 19 = .ok (.invokevirtual 226, 3) := xh_invokevirtual (by decide +kernel)
theorem dX12_fresh_32 : decode cX12_fresh 32 = .ok (.invokestatic 229, 3) := xh_invokestatic (by decide +kernel)
theorem dX12_fresh_41 : decode cX12_fresh 41 = .ok (.invokevirtual 226, 3) := xh_invokevirtual (by decide +kernel)
theorem dX12_fresh_60 : decode cX12_fresh 60 = .ok (.invokevirtual 223, 3) := xh_invokevirtual (by decide +kernel)
theorem dX12_gang_2 : decode cX12_gang 2 = .ok (.putfield 163, 3) := xh_putfield (by decide +kernel)
theorem dX12_gang_6 : decode cX12_gang 6 = .ok (.invokevirtual 473, 3) := xh_invokevirtual (by decide +kernel)
theorem dX12_gang_33 : decode cX12_gang 33 = .ok (.invokestatic 485, 3) := xh_invokestatic (by decide +kernel)
theorem dX12_gang_37 : decode cX12_gang 37 = .ok (.invokestatic 485, 3) := xh_invokestatic (by decide +kernel)
theorem dX12_gang_45 : decode cX12_gang 45 = .ok (.invokevirtual 488, 3) := xh_invokevirtual (by decide +kernel)
theorem dX12_goOn_8 : decode cX12_goOn 8 = .ok (.invokevirtual 223, 3) := xh_invokevirtual (by decide +kernel)
theorem dX12_goes_2 : decode cX12_goes 2 = .ok (.putfield 348, 3) := xh_putfield (by decide +kernel)
theorem dX12_goes_39 : decode cX12_goes 39 = .ok (.invokevirtual 365, 3) := xh_invokevirtual (by decide +kernel)
theorem dX12_goes_93 : decode cX12_goes 93 = .ok (.putfield 348, 3) := xh_putfield (by decide +kernel)
theorem dX12_hasOf_47 : decode cX12_hasOf 47 = .ok (.invokestatic 403, 3) := xh_invokestatic (by decide +kernel)
theorem dX12_hasOf_50 : decode cX12_hasOf 50 = .ok (.invokestatic 385, 3) := xh_invokestatic (by decide +kernel)
theorem dX12_highOf_26 : decode cX12_highOf 26 = .ok (.invokestatic 385, 3) := xh_invokestatic (by decide +kernel)
theorem dX12_hum_2 : decode cX12_hum 2 = .ok (.putfield 163, 3) := xh_putfield (by decide +kernel)
theorem dX12_hum_54 : decode cX12_hum 54 = .ok (.putfield 325, 3) := xh_putfield (by decide +kernel)
theorem dX12_isBest_2 : decode cX12_isBest 2 = .ok (.invokevirtual 433, 3) := xh_invokevirtual (by decide +kernel)
theorem dX12_isBest_13 : decode cX12_isBest 13 = .ok (.sipush 1000, 3) := by decide +kernel
theorem dX12_isBest_26 : decode cX12_isBest 26 = .ok (.sipush 1000, 3) := by decide +kernel
theorem dX12_isBest_37 : decode cX12_isBest 37 = .ok (.invokevirtual 436, 3) := xh_invokevirtual (by decide +kernel)
theorem dX12_isCrowns_5 : decode cX12_isCrowns 5 = .ok (.sipush 1000, 3) := by decide +kernel
theorem dX12_isFull_6 : decode cX12_isFull 6 = .ok (.invokevirtual 233, 3) := xh_invokevirtual (by decide +kernel)
theorem dX12_isFull_20 : decode cX12_isFull 20 = .ok (.invokevirtual 233, 3) := xh_invokevirtual (by decide +kernel)
theorem dX12_isFull_35 : decode cX12_isFull 35 = .ok (.invokevirtual 233, 3) := xh_invokevirtual (by decide +kernel)
theorem dX12_isFull_49 : decode cX12_isFull 49 = .ok (.invokevirtual 233, 3) := xh_invokevirtual (by decide +kernel)
theorem dX12_isGang_4 : decode cX12_isGang 4 = .ok (.invokevirtual 467, 3) := xh_invokevirtual (by decide +kernel)
theorem dX12_isGang_12 : decode cX12_isGang 12 = .ok (.invokevirtual 470, 3) := xh_invokevirtual (by decide +kernel)
theorem dX12_isGang_51 : decode cX12_isGang 51 = .ok (.invokevirtual 338, 3) := xh_invokevirtual (by decide +kernel)
theorem dX12_isGang_66 : decode cX12_isGang 66 = .ok (.invokevirtual 378, 3) := xh_invokevirtual (by decide +kernel)
theorem dX12_isPart_2 : decode cX12_isPart 2 = .ok (.invokevirtual 332, 3) := xh_invokevirtual (by decide +kernel)
theorem dX12_isSounded_16 : decode cX12_isSounded 16 = .ok (.invokevirtual 338, 3) := xh_invokevirtual (by decide +kernel)
theorem dX12_isSounded_35 : decode cX12_isSounded 35 = .ok (.invokevirtual 378, 3) := xh_invokevirtual (by decide +kernel)
theorem dX12_isThief_4 : decode cX12_isThief 4 = .ok (.invokevirtual 467, 3) := xh_invokevirtual (by decide +kernel)
theorem dX12_isThief_12 : decode cX12_isThief 12 = .ok (.invokevirtual 470, 3) := xh_invokevirtual (by decide +kernel)
theorem dX12_isThief_26 : decode cX12_isThief 26 = .ok (.invokevirtual 378, 3) := xh_invokevirtual (by decide +kernel)
theorem dX12_isThief_42 : decode cX12_isThief 42 = .ok (.invokevirtual 338, 3) := xh_invokevirtual (by decide +kernel)
theorem dX12_keep_2 : decode cX12_keep 2 = .ok (.putfield 163, 3) := xh_putfield (by decide +kernel)
theorem dX12_keep_8 : decode cX12_keep 8 = .ok (.invokevirtual 508, 3) := xh_invokevirtual (by decide +kernel)
theorem dX12_keep_13 : decode cX12_keep 13 = .ok (.putfield 328, 3) := xh_putfield (by decide +kernel)
theorem dX12_knot_19 : decode cX12_knot 19 = .ok (.invokevirtual 226, 3) := xh_invokevirtual (by decide +kernel)
theorem dX12_knot_32 : decode cX12_knot 32 = .ok (.putfield 288, 3) := xh_putfield (by decide +kernel)
theorem dX12_known_2 : decode cX12_known 2 = .ok (.putfield 163, 3) := xh_putfield (by decide +kernel)
theorem dX12_known_22 : decode cX12_known 22 = .ok (.putfield 142, 3) := xh_putfield (by decide +kernel)
theorem dX12_lawLine_27 : decode cX12_lawLine 27 = .ok (.invokevirtual 226, 3) := xh_invokevirtual (by decide +kernel)
theorem dX12_lawLine_62 : decode cX12_lawLine 62 = .ok (.invokevirtual 226, 3) := xh_invokevirtual (by decide +kernel)
theorem dX12_lawLine_85 : decode cX12_lawLine 85 = .ok (.putfield 243, 3) := xh_putfield (by decide +kernel)
theorem dX12_lawLine_89 : decode cX12_lawLine 89 = .ok (.invokevirtual 223, 3) := xh_invokevirtual (by decide +kernel)
theorem dX12_lawLine_96 : decode cX12_lawLine 96 = .ok (.invokevirtual 264, 3) := xh_invokevirtual (by decide +kernel)
theorem dX12_layBest_1 : decode cX12_layBest 1 = .ok (.invokevirtual 424, 3) := xh_invokevirtual (by decide +kernel)
theorem dX12_layBest_15 : decode cX12_layBest 15 = .ok (.sipush 1000, 3) := by decide +kernel
theorem dX12_layBest_33 : decode cX12_layBest 33 = .ok (.sipush 1000, 3) := by decide +kernel
theorem dX12_layBest_77 : decode cX12_layBest 77 = .ok (.sipush 1000, 3) := by decide +kernel
theorem dX12_layBest_93 : decode cX12_layBest 93 = .ok (.invokevirtual 427, 3) := xh_invokevirtual (by decide +kernel)
theorem dX12_layBest_98 : decode cX12_layBest 98 = .ok (.invokevirtual 430, 3) := xh_invokevirtual (by decide +kernel)
theorem dX12_layBest_109 : decode cX12_layBest 109 = .ok (.invokevirtual 433, 3) := xh_invokevirtual (by decide +kernel)
theorem dX12_layBest_114 : decode cX12_layBest 114 = .ok (.invokevirtual 436, 3) := xh_invokevirtual (by decide +kernel)
theorem dX12_layBest_117 : decode cX12_layBest 117 = .ok (.invokevirtual 439, 3) := xh_invokevirtual (by decide +kernel)
theorem dX12_layBest_122 : decode cX12_layBest 122 = .ok (.invokevirtual 443, 3) := xh_invokevirtual (by decide +kernel)
theorem dX12_layDues_15 : decode cX12_layDues 15 = .ok (.invokevirtual 344, 3) := xh_invokevirtual (by decide +kernel)
theorem dX12_layDues_49 : decode cX12_layDues 49 = .ok (.invokevirtual 405, 3) := xh_invokevirtual (by decide +kernel)
theorem dX12_layDues_66 : decode cX12_layDues 66 = .ok (.invokevirtual 390, 3) := xh_invokevirtual (by decide +kernel)
theorem dX12_line_18 : decode cX12_line 18 = .ok (.invokevirtual 226, 3) := xh_invokevirtual (by decide +kernel)
theorem dX12_line_29 : decode cX12_line 29 = .ok (.invokevirtual 240, 3) := xh_invokevirtual (by decide +kernel)
theorem dX12_line_37 : decode cX12_line 37 = .ok (.invokevirtual 226, 3) := xh_invokevirtual (by decide +kernel)
theorem dX12_line_67 : decode cX12_line 67 = .ok (.invokevirtual 226, 3) := xh_invokevirtual (by decide +kernel)
theorem dX12_line_87 : decode cX12_line 87 = .ok (.putfield 243, 3) := xh_putfield (by decide +kernel)
theorem dX12_line_91 : decode cX12_line 91 = .ok (.invokevirtual 223, 3) := xh_invokevirtual (by decide +kernel)
theorem dX12_line_95 : decode cX12_line 95 = .ok (.tableswitch 226 0 5 #[37, 107, 122, 136, 195, 211], 37) := by decide +kernel
theorem dX12_line_135 : decode cX12_line 135 = .ok (.invokevirtual 233, 3) := xh_invokevirtual (by decide +kernel)
end
section
theorem dX12_line_153 : decode cX12_line 153 = .ok (.invokevirtual 233, 3) := xh_invokevirtual (by decide +kernel)
theorem dX12_line_156 : decode cX12_line 156 = .ok (.invokevirtual 246, 3) := xh_invokevirtual (by decide +kernel)
theorem dX12_line_169 : decode cX12_line 169 = .ok (.invokevirtual 250, 3) := xh_invokevirtual (by decide +kernel)
theorem dX12_line_180 : decode cX12_line 180 = .ok (.sipush 9999, 3) := by decide +kernel
theorem dX12_line_183 : decode cX12_line 183 = .ok (.invokevirtual 250, 3) := xh_invokevirtual (by decide +kernel)
theorem dX12_line_191 : decode cX12_line 191 = .ok (.invokevirtual 233, 3) := xh_invokevirtual (by decide +kernel)
theorem dX12_line_196 : decode cX12_line 196 = .ok (.invokevirtual 254, 3) := xh_invokevirtual (by decide +kernel)
theorem dX12_line_207 : decode cX12_line 207 = .ok (.invokevirtual 233, 3) := xh_invokevirtual (by decide +kernel)
theorem dX12_line_211 : decode cX12_line 211 = .ok (.invokevirtual 258, 3) := xh_invokevirtual (by decide +kernel)
theorem dX12_line_221 : decode cX12_line 221 = .ok (.invokevirtual 233, 3) := xh_invokevirtual (by decide +kernel)
theorem dX12_line_225 : decode cX12_line 225 = .ok (.invokevirtual 261, 3) := xh_invokevirtual (by decide +kernel)
theorem dX12_line_233 : decode cX12_line 233 = .ok (.invokevirtual 233, 3) := xh_invokevirtual (by decide +kernel)
theorem dX12_line_251 : decode cX12_line 251 = .ok (.invokevirtual 246, 3) := xh_invokevirtual (by decide +kernel)
theorem dX12_line_264 : decode cX12_line 264 = .ok (.sipush 999, 3) := by decide +kernel
theorem dX12_line_267 : decode cX12_line 267 = .ok (.invokevirtual 250, 3) := xh_invokevirtual (by decide +kernel)
theorem dX12_line_276 : decode cX12_line 276 = .ok (.invokevirtual 264, 3) := xh_invokevirtual (by decide +kernel)
theorem dX12_line_284 : decode cX12_line 284 = .ok (.invokevirtual 254, 3) := xh_invokevirtual (by decide +kernel)
theorem dX12_line_294 : decode cX12_line 294 = .ok (.sipush 999, 3) := by decide +kernel
theorem dX12_line_297 : decode cX12_line 297 = .ok (.invokevirtual 250, 3) := xh_invokevirtual (by decide +kernel)
theorem dX12_line_300 : decode cX12_line 300 = .ok (.invokevirtual 254, 3) := xh_invokevirtual (by decide +kernel)
theorem dX12_line_310 : decode cX12_line 310 = .ok (.ldc 201, 2) := by decide +kernel
theorem dX12_line_312 : decode cX12_line 312 = .ok (.invokevirtual 250, 3) := xh_invokevirtual (by decide +kernel)
theorem dX12_line_315 : decode cX12_line 315 = .ok (.invokevirtual 254, 3) := xh_invokevirtual (by decide +kernel)
theorem dX12_line_322 : decode cX12_line 322 = .ok (.invokevirtual 267, 3) := xh_invokevirtual (by decide +kernel)
theorem dX12_line_336 : decode cX12_line 336 = .ok (.invokevirtual 270, 3) := xh_invokevirtual (by decide +kernel)
theorem dX12_line_344 : decode cX12_line 344 = .ok (.invokevirtual 226, 3) := xh_invokevirtual (by decide +kernel)
theorem dX12_line_351 : decode cX12_line 351 = .ok (.invokevirtual 223, 3) := xh_invokevirtual (by decide +kernel)
theorem dX12_line_361 : decode cX12_line 361 = .ok (.putfield 273, 3) := xh_putfield (by decide +kernel)
theorem dX12_look_3 : decode cX12_look 3 = .ok (.invokevirtual 335, 3) := xh_invokevirtual (by decide +kernel)
theorem dX12_look_27 : decode cX12_look 27 = .ok (.putfield 163, 3) := xh_putfield (by decide +kernel)
theorem dX12_look_40 : decode cX12_look 40 = .ok (.tableswitch 71 0 4 #[36, 43, 50, 57, 64], 36) := by decide +kernel
theorem dX12_look_113 : decode cX12_look 113 = .ok (.invokevirtual 338, 3) := xh_invokevirtual (by decide +kernel)
theorem dX12_mayBe_37 : decode cX12_mayBe 37 = .ok (.invokevirtual 338, 3) := xh_invokevirtual (by decide +kernel)
theorem dX12_name_2 : decode cX12_name 2 = .ok (.putfield 192, 3) := xh_putfield (by decide +kernel)
theorem dX12_name_54 : decode cX12_name 54 = .ok (.putfield 192, 3) := xh_putfield (by decide +kernel)
theorem dX12_named_2 : decode cX12_named 2 = .ok (.putfield 163, 3) := xh_putfield (by decide +kernel)
theorem dX12_named_6 : decode cX12_named 6 = .ok (.tableswitch 94 0 3 #[30, 46, 62, 78], 30) := by decide +kernel
theorem dX12_named_48 : decode cX12_named 48 = .ok (.invokestatic 229, 3) := xh_invokestatic (by decide +kernel)
theorem dX12_named_64 : decode cX12_named 64 = .ok (.invokestatic 229, 3) := xh_invokestatic (by decide +kernel)
theorem dX12_named_80 : decode cX12_named 80 = .ok (.invokestatic 229, 3) := xh_invokestatic (by decide +kernel)
theorem dX12_named_96 : decode cX12_named 96 = .ok (.invokestatic 229, 3) := xh_invokestatic (by decide +kernel)
theorem dX12_negation_3 : decode cX12_negation 3 = .ok (.invokevirtual 279, 3) := xh_invokevirtual (by decide +kernel)
theorem dX12_negation_10 : decode cX12_negation 10 = .ok (.invokevirtual 294, 3) := xh_invokevirtual (by decide +kernel)
theorem dX12_negation_14 : decode cX12_negation 14 = .ok (.invokevirtual 237, 3) := xh_invokevirtual (by decide +kernel)
theorem dX12_negation_18 : decode cX12_negation 18 = .ok (.invokevirtual 300, 3) := xh_invokevirtual (by decide +kernel)
theorem dX12_negation_23 : decode cX12_negation 23 = .ok (.sipush 260, 3) := by decide +kernel
theorem dX12_negation_26 : decode cX12_negation 26 = .ok (.invokevirtual 297, 3) := xh_invokevirtual (by decide +kernel)
theorem dX12_negation_31 : decode cX12_negation 31 = .ok (.invokevirtual 303, 3) := xh_invokevirtual (by decide +kernel)
theorem dX12_negation_80 : decode cX12_negation 80 = .ok (.sipush 256, 3) := by decide +kernel
theorem dX12_negation_93 : decode cX12_negation 93 = .ok (.invokevirtual 294, 3) := xh_invokevirtual (by decide +kernel)
theorem dX12_negation_97 : decode cX12_negation 97 = .ok (.invokevirtual 237, 3) := xh_invokevirtual (by decide +kernel)
theorem dX12_negation_101 : decode cX12_negation 101 = .ok (.invokevirtual 303, 3) := xh_invokevirtual (by decide +kernel)
theorem dX12_negation_107 : decode cX12_negation 107 = .ok (.invokevirtual 297, 3) := xh_invokevirtual (by decide +kernel)
theorem dX12_numeral_19 : decode cX12_numeral 19 = .ok (.invokevirtual 226, 3) := xh_invokevirtual (by decide +kernel)
theorem dX12_numeral_43 : decode cX12_numeral 43 = .ok (.invokevirtual 226, 3) := xh_invokevirtual (by decide +kernel)
theorem dX12_numeral_61 : decode cX12_numeral 61 = .ok (.invokevirtual 223, 3) := xh_invokevirtual (by decide +kernel)
theorem dX12_odds_2 : decode cX12_odds 2 = .ok (.putfield 163, 3) := xh_putfield (by decide +kernel)
theorem dX12_odds_7 : decode cX12_odds 7 = .ok (.invokevirtual 335, 3) := xh_invokevirtual (by decide +kernel)
theorem dX12_odds_25 : decode cX12_odds 25 = .ok (.invokevirtual 479, 3) := xh_invokevirtual (by decide +kernel)
theorem dX12_odds_98 : decode cX12_odds 98 = .ok (.invokestatic 482, 3) := xh_invokestatic (by decide +kernel)
theorem dX12_partLine_35 : decode cX12_partLine 35 = .ok (.invokevirtual 226, 3) := xh_invokevirtual (by decide +kernel)
theorem dX12_partLine_42 : decode cX12_partLine 42 = .ok (.invokevirtual 250, 3) := xh_invokevirtual (by decide +kernel)
theorem dX12_pay_2 : decode cX12_pay 2 = .ok (.putfield 163, 3) := xh_putfield (by decide +kernel)
theorem dX12_pay_7 : decode cX12_pay 7 = .ok (.invokevirtual 341, 3) := xh_invokevirtual (by decide +kernel)
theorem dX12_pay_55 : decode cX12_pay 55 = .ok (.invokestatic 403, 3) := xh_invokestatic (by decide +kernel)
theorem dX12_pay_58 : decode cX12_pay 58 = .ok (.invokestatic 385, 3) := xh_invokestatic (by decide +kernel)
theorem dX12_pitch_2 : decode cX12_pitch 2 = .ok (.putfield 163, 3) := xh_putfield (by decide +kernel)
theorem dX12_pitch_8 : decode cX12_pitch 8 = .ok (.invokevirtual 344, 3) := xh_invokevirtual (by decide +kernel)
theorem dX12_primary_11 : decode cX12_primary 11 = .ok (.invokevirtual 270, 3) := xh_invokevirtual (by decide +kernel)
theorem dX12_primary_28 : decode cX12_primary 28 = .ok (.invokevirtual 226, 3) := xh_invokevirtual (by decide +kernel)
theorem dX12_primary_46 : decode cX12_primary 46 = .ok (.putfield 312, 3) := xh_putfield (by decide +kernel)
theorem dX12_primary_50 : decode cX12_primary 50 = .ok (.invokevirtual 223, 3) := xh_invokevirtual (by decide +kernel)
theorem dX12_primary_54 : decode cX12_primary 54 = .ok (.invokevirtual 276, 3) := xh_invokevirtual (by decide +kernel)
theorem dX12_primary_67 : decode cX12_primary 67 = .ok (.invokevirtual 270, 3) := xh_invokevirtual (by decide +kernel)
theorem dX12_primary_75 : decode cX12_primary 75 = .ok (.invokevirtual 226, 3) := xh_invokevirtual (by decide +kernel)
theorem dX12_primary_93 : decode cX12_primary 93 = .ok (.putfield 312, 3) := xh_putfield (by decide +kernel)
theorem dX12_primary_97 : decode cX12_primary 97 = .ok (.invokevirtual 223, 3) := xh_invokevirtual (by decide +kernel)
theorem dX12_primary_123 : decode cX12_primary 123 = .ok (.sipush 9999, 3) := by decide +kernel
theorem dX12_primary_131 : decode cX12_primary 131 = .ok (.invokevirtual 226, 3) := xh_invokevirtual (by decide +kernel)
theorem dX12_primary_159 : decode cX12_primary 159 = .ok (.invokevirtual 226, 3) := xh_invokevirtual (by decide +kernel)
theorem dX12_primary_163 : decode cX12_primary 163 = .ok (.invokevirtual 294, 3) := xh_invokevirtual (by decide +kernel)
theorem dX12_primary_194 : decode cX12_primary 194 = .ok (.invokevirtual 297, 3) := xh_invokevirtual (by decide +kernel)
theorem dX12_primary_198 : decode cX12_primary 198 = .ok (.invokevirtual 237, 3) := xh_invokevirtual (by decide +kernel)
theorem dX12_product_1 : decode cX12_product 1 = .ok (.invokevirtual 309, 3) := xh_invokevirtual (by decide +kernel)
theorem dX12_product_7 : decode cX12_product 7 = .ok (.invokevirtual 270, 3) := xh_invokevirtual (by decide +kernel)
theorem dX12_product_16 : decode cX12_product 16 = .ok (.invokevirtual 270, 3) := xh_invokevirtual (by decide +kernel)
theorem dX12_product_28 : decode cX12_product 28 = .ok (.invokevirtual 294, 3) := xh_invokevirtual (by decide +kernel)
theorem dX12_product_32 : decode cX12_product 32 = .ok (.invokevirtual 237, 3) := xh_invokevirtual (by decide +kernel)
theorem dX12_product_36 : decode cX12_product 36 = .ok (.invokevirtual 309, 3) := xh_invokevirtual (by decide +kernel)
theorem dX12_product_42 : decode cX12_product 42 = .ok (.invokevirtual 297, 3) := xh_invokevirtual (by decide +kernel)
theorem dX12_puts_17 : decode cX12_puts 17 = .ok (.invokevirtual 233, 3) := xh_invokevirtual (by decide +kernel)
theorem dX12_puts_32 : decode cX12_puts 32 = .ok (.invokevirtual 233, 3) := xh_invokevirtual (by decide +kernel)
theorem dX12_puts_44 : decode cX12_puts 44 = .ok (.invokevirtual 233, 3) := xh_invokevirtual (by decide +kernel)
theorem dX12_puts_49 : decode cX12_puts 49 = .ok (.invokevirtual 254, 3) := xh_invokevirtual (by decide +kernel)
theorem dX12_redeem_2 : decode cX12_redeem 2 = .ok (.putfield 163, 3) := xh_putfield (by decide +kernel)
theorem dX12_redeem_8 : decode cX12_redeem 8 = .ok (.invokevirtual 344, 3) := xh_invokevirtual (by decide +kernel)
theorem dX12_redeem_16 : decode cX12_redeem 16 = .ok (.invokevirtual 335, 3) := xh_invokevirtual (by decide +kernel)
theorem dX12_redeem_24 : decode cX12_redeem 24 = .ok (.invokevirtual 338, 3) := xh_invokevirtual (by decide +kernel)
theorem dX12_redeem_47 : decode cX12_redeem 47 = .ok (.invokevirtual 414, 3) := xh_invokevirtual (by decide +kernel)
theorem dX12_redeem_66 : decode cX12_redeem 66 = .ok (.invokevirtual 405, 3) := xh_invokevirtual (by decide +kernel)
theorem dX12_round_2 : decode cX12_round 2 = .ok (.putfield 163, 3) := xh_putfield (by decide +kernel)
theorem dX12_round_8 : decode cX12_round 8 = .ok (.invokevirtual 344, 3) := xh_invokevirtual (by decide +kernel)
theorem dX12_round_17 : decode cX12_round 17 = .ok (.invokestatic 498, 3) := xh_invokestatic (by decide +kernel)
theorem dX12_round_27 : decode cX12_round 27 = .ok (.putfield 491, 3) := xh_putfield (by decide +kernel)
theorem dX12_round_41 : decode cX12_round 41 = .ok (.invokevirtual 494, 3) := xh_invokevirtual (by decide +kernel)
theorem dX12_rows_59 : decode cX12_rows 59 = .ok (.invokevirtual 381, 3) := xh_invokevirtual (by decide +kernel)
theorem dX12_rows_113 : decode cX12_rows 113 = .ok (.putfield 491, 3) := xh_putfield (by decide +kernel)
theorem dX12_rows_174 : decode cX12_rows 174 = .ok (.invokevirtual 338, 3) := xh_invokevirtual (by decide +kernel)
theorem dX12_rows_207 : decode cX12_rows 207 = .ok (.invokevirtual 494, 3) := xh_invokevirtual (by decide +kernel)
theorem dX12_run_2 : decode cX12_run 2 = .ok (.putfield 163, 3) := xh_putfield (by decide +kernel)
theorem dX12_run_7 : decode cX12_run 7 = .ok (.invokevirtual 341, 3) := xh_invokevirtual (by decide +kernel)
theorem dX12_run_20 : decode cX12_run 20 = .ok (.invokevirtual 335, 3) := xh_invokevirtual (by decide +kernel)
theorem dX12_run_41 : decode cX12_run 41 = .ok (.invokevirtual 501, 3) := xh_invokevirtual (by decide +kernel)
theorem dX12_sells_59 : decode cX12_sells 59 = .ok (.putfield 455, 3) := xh_putfield (by decide +kernel)
theorem dX12_sells_64 : decode cX12_sells 64 = .ok (.putfield 458, 3) := xh_putfield (by decide +kernel)
theorem dX12_sells_96 : decode cX12_sells 96 = .ok (.invokevirtual 408, 3) := xh_invokevirtual (by decide +kernel)
theorem dX12_sells_111 : decode cX12_sells 111 = .ok (.putfield 458, 3) := xh_putfield (by decide +kernel)
theorem dX12_sells_121 : decode cX12_sells 121 = .ok (.putfield 455, 3) := xh_putfield (by decide +kernel)
theorem dX12_sells_139 : decode cX12_sells 139 = .ok (.putfield 458, 3) := xh_putfield (by decide +kernel)
theorem dX12_sign_7 : decode cX12_sign 7 = .ok (.putfield 169, 3) := xh_putfield (by decide +kernel)
end
