section
-- ===== PART A: goes FIRST, ahead of the names: the tables' words, and 'selects' of the private methods out of them =====
/-- a private method of a class that the tables say can be made, by its rows of tables_1 -/
def lw_okq (q : MethodName × Nat) : Prop := (q.1.cls ≠ "java/lang/invoke/MethodHandle" ∧ q.1.cls ≠ "java/lang/invoke/VarHandle") ∧ Cond.instantiable q.1.cls q.2 ∈ tables_1 ∧ Cond.privateMethod q.1 ∈ tables_1 ∧ Cond.instanceMethod q.1 ∈ tables_1
theorem lw_p0 : lw_okq (⟨"GaveTheDayBefore", "refuse", "(I)I"⟩, 10) := ⟨⟨by decide +kernel, by decide +kernel⟩, List.mem_of_getElem? (i := 11) (by decide +kernel), List.mem_of_getElem? (i := 169) (by decide +kernel), List.mem_of_getElem? (i := 170) (by decide +kernel)⟩
theorem lw_p1 : lw_okq (⟨"GaveTheDayBefore$Letters", "isFull", "()Z"⟩, 3) := ⟨⟨by decide +kernel, by decide +kernel⟩, List.mem_of_getElem? (i := 117) (by decide +kernel), List.mem_of_getElem? (i := 173) (by decide +kernel), List.mem_of_getElem? (i := 174) (by decide +kernel)⟩
theorem lw_p2 : lw_okq (⟨"GaveTheDayBefore$Letters", "add", "(I)I"⟩, 3) := ⟨⟨by decide +kernel, by decide +kernel⟩, List.mem_of_getElem? (i := 117) (by decide +kernel), List.mem_of_getElem? (i := 177) (by decide +kernel), List.mem_of_getElem? (i := 178) (by decide +kernel)⟩
theorem lw_p3 : lw_okq (⟨"GaveTheDayBefore", "readLand", "()I"⟩, 10) := ⟨⟨by decide +kernel, by decide +kernel⟩, List.mem_of_getElem? (i := 11) (by decide +kernel), List.mem_of_getElem? (i := 185) (by decide +kernel), List.mem_of_getElem? (i := 186) (by decide +kernel)⟩
theorem lw_p4 : lw_okq (⟨"GaveTheDayBefore$Letters", "firstUnfit", "()I"⟩, 3) := ⟨⟨by decide +kernel, by decide +kernel⟩, List.mem_of_getElem? (i := 117) (by decide +kernel), List.mem_of_getElem? (i := 189) (by decide +kernel), List.mem_of_getElem? (i := 190) (by decide +kernel)⟩
theorem lw_p5 : lw_okq (⟨"GaveTheDayBefore$Letters", "passesStatement", "()Z"⟩, 3) := ⟨⟨by decide +kernel, by decide +kernel⟩, List.mem_of_getElem? (i := 117) (by decide +kernel), List.mem_of_getElem? (i := 193) (by decide +kernel), List.mem_of_getElem? (i := 194) (by decide +kernel)⟩
theorem lw_p6 : lw_okq (⟨"GaveTheDayBefore$Letters", "passes", "(I)Z"⟩, 3) := ⟨⟨by decide +kernel, by decide +kernel⟩, List.mem_of_getElem? (i := 117) (by decide +kernel), List.mem_of_getElem? (i := 197) (by decide +kernel), List.mem_of_getElem? (i := 198) (by decide +kernel)⟩
theorem lw_p7 : lw_okq (⟨"GaveTheDayBefore$Letters", "isAt", "(II)Z"⟩, 3) := ⟨⟨by decide +kernel, by decide +kernel⟩, List.mem_of_getElem? (i := 117) (by decide +kernel), List.mem_of_getElem? (i := 201) (by decide +kernel), List.mem_of_getElem? (i := 202) (by decide +kernel)⟩
theorem lw_p8 : lw_okq (⟨"GaveTheDayBefore$Letters", "passesDigits", "(II)Z"⟩, 3) := ⟨⟨by decide +kernel, by decide +kernel⟩, List.mem_of_getElem? (i := 117) (by decide +kernel), List.mem_of_getElem? (i := 205) (by decide +kernel), List.mem_of_getElem? (i := 206) (by decide +kernel)⟩
theorem lw_p9 : lw_okq (⟨"GaveTheDayBefore$Letters", "isDigitAt", "(I)Z"⟩, 3) := ⟨⟨by decide +kernel, by decide +kernel⟩, List.mem_of_getElem? (i := 117) (by decide +kernel), List.mem_of_getElem? (i := 209) (by decide +kernel), List.mem_of_getElem? (i := 210) (by decide +kernel)⟩
theorem lw_p10 : lw_okq (⟨"GaveTheDayBefore$Village", "become", "(LGaveTheDayBefore$Village;)V"⟩, 9) := ⟨⟨by decide +kernel, by decide +kernel⟩, List.mem_of_getElem? (i := 19) (by decide +kernel), List.mem_of_getElem? (i := 213) (by decide +kernel), List.mem_of_getElem? (i := 214) (by decide +kernel)⟩
theorem lw_p11 : lw_okq (⟨"GaveTheDayBefore$Gifts", "become", "(LGaveTheDayBefore$Gifts;)V"⟩, 3) := ⟨⟨by decide +kernel, by decide +kernel⟩, List.mem_of_getElem? (i := 25) (by decide +kernel), List.mem_of_getElem? (i := 220) (by decide +kernel), List.mem_of_getElem? (i := 221) (by decide +kernel)⟩
theorem lw_p12 : lw_okq (⟨"GaveTheDayBefore", "comesInMind", "(I)Z"⟩, 10) := ⟨⟨by decide +kernel, by decide +kernel⟩, List.mem_of_getElem? (i := 11) (by decide +kernel), List.mem_of_getElem? (i := 225) (by decide +kernel), List.mem_of_getElem? (i := 226) (by decide +kernel)⟩
theorem lw_p13 : lw_okq (⟨"GaveTheDayBefore$Letters", "digit", "(I)I"⟩, 3) := ⟨⟨by decide +kernel, by decide +kernel⟩, List.mem_of_getElem? (i := 117) (by decide +kernel), List.mem_of_getElem? (i := 229) (by decide +kernel), List.mem_of_getElem? (i := 230) (by decide +kernel)⟩
theorem lw_p14 : lw_okq (⟨"GaveTheDayBefore$Village", "takeLaw", "(III)Z"⟩, 9) := ⟨⟨by decide +kernel, by decide +kernel⟩, List.mem_of_getElem? (i := 19) (by decide +kernel), List.mem_of_getElem? (i := 234) (by decide +kernel), List.mem_of_getElem? (i := 235) (by decide +kernel)⟩
theorem lw_p15 : lw_okq (⟨"GaveTheDayBefore$Village", "changeSetting", "(II)I"⟩, 9) := ⟨⟨by decide +kernel, by decide +kernel⟩, List.mem_of_getElem? (i := 19) (by decide +kernel), List.mem_of_getElem? (i := 245) (by decide +kernel), List.mem_of_getElem? (i := 246) (by decide +kernel)⟩
def lw_privs_1 : List (MethodName × Nat) := [(⟨"GaveTheDayBefore", "refuse", "(I)I"⟩, 10), (⟨"GaveTheDayBefore$Letters", "isFull", "()Z"⟩, 3), (⟨"GaveTheDayBefore$Letters", "add", "(I)I"⟩, 3), (⟨"GaveTheDayBefore", "readLand", "()I"⟩, 10), (⟨"GaveTheDayBefore$Letters", "firstUnfit", "()I"⟩, 3), (⟨"GaveTheDayBefore$Letters", "passesStatement", "()Z"⟩, 3), (⟨"GaveTheDayBefore$Letters", "passes", "(I)Z"⟩, 3), (⟨"GaveTheDayBefore$Letters", "isAt", "(II)Z"⟩, 3), (⟨"GaveTheDayBefore$Letters", "passesDigits", "(II)Z"⟩, 3), (⟨"GaveTheDayBefore$Letters", "isDigitAt", "(I)Z"⟩, 3), (⟨"GaveTheDayBefore$Village", "become", "(LGaveTheDayBefore$Village;)V"⟩, 9), (⟨"GaveTheDayBefore$Gifts", "become", "(LGaveTheDayBefore$Gifts;)V"⟩, 3), (⟨"GaveTheDayBefore", "comesInMind", "(I)Z"⟩, 10), (⟨"GaveTheDayBefore$Letters", "digit", "(I)I"⟩, 3), (⟨"GaveTheDayBefore$Village", "takeLaw", "(III)Z"⟩, 9), (⟨"GaveTheDayBefore$Village", "changeSetting", "(II)I"⟩, 9)]
theorem lw_r1 : ∀ q ∈ lw_privs_1, lw_okq q := List.forall_mem_cons.mpr ⟨lw_p0, List.forall_mem_cons.mpr ⟨lw_p1, List.forall_mem_cons.mpr ⟨lw_p2, List.forall_mem_cons.mpr ⟨lw_p3, List.forall_mem_cons.mpr ⟨lw_p4, List.forall_mem_cons.mpr ⟨lw_p5, List.forall_mem_cons.mpr ⟨lw_p6, List.forall_mem_cons.mpr ⟨lw_p7, List.forall_mem_cons.mpr ⟨lw_p8, List.forall_mem_cons.mpr ⟨lw_p9, List.forall_mem_cons.mpr ⟨lw_p10, List.forall_mem_cons.mpr ⟨lw_p11, List.forall_mem_cons.mpr ⟨lw_p12, List.forall_mem_cons.mpr ⟨lw_p13, List.forall_mem_cons.mpr ⟨lw_p14, List.forall_mem_cons.mpr ⟨lw_p15, fun _ h => absurd h List.not_mem_nil⟩⟩⟩⟩⟩⟩⟩⟩⟩⟩⟩⟩⟩⟩⟩⟩
theorem lw_p16 : lw_okq (⟨"GaveTheDayBefore$Gifts", "countPastDays", "(I)V"⟩, 3) := ⟨⟨by decide +kernel, by decide +kernel⟩, List.mem_of_getElem? (i := 25) (by decide +kernel), List.mem_of_getElem? (i := 249) (by decide +kernel), List.mem_of_getElem? (i := 250) (by decide +kernel)⟩
theorem lw_p17 : lw_okq (⟨"GaveTheDayBefore$Gifts", "countDay", "(II)V"⟩, 3) := ⟨⟨by decide +kernel, by decide +kernel⟩, List.mem_of_getElem? (i := 25) (by decide +kernel), List.mem_of_getElem? (i := 253) (by decide +kernel), List.mem_of_getElem? (i := 254) (by decide +kernel)⟩
theorem lw_p18 : lw_okq (⟨"GaveTheDayBefore$Gifts", "countOf", "(IIJ)I"⟩, 3) := ⟨⟨by decide +kernel, by decide +kernel⟩, List.mem_of_getElem? (i := 25) (by decide +kernel), List.mem_of_getElem? (i := 257) (by decide +kernel), List.mem_of_getElem? (i := 258) (by decide +kernel)⟩
theorem lw_p19 : lw_okq (⟨"GaveTheDayBefore$Letters", "number", "(I)I"⟩, 3) := ⟨⟨by decide +kernel, by decide +kernel⟩, List.mem_of_getElem? (i := 117) (by decide +kernel), List.mem_of_getElem? (i := 261) (by decide +kernel), List.mem_of_getElem? (i := 262) (by decide +kernel)⟩
theorem lw_p20 : lw_okq (⟨"GaveTheDayBefore$Letters", "next", "(II)I"⟩, 3) := ⟨⟨by decide +kernel, by decide +kernel⟩, List.mem_of_getElem? (i := 117) (by decide +kernel), List.mem_of_getElem? (i := 266) (by decide +kernel), List.mem_of_getElem? (i := 267) (by decide +kernel)⟩
theorem lw_p21 : lw_okq (⟨"GaveTheDayBefore$Village", "welcome", "(IIIII)Z"⟩, 9) := ⟨⟨by decide +kernel, by decide +kernel⟩, List.mem_of_getElem? (i := 19) (by decide +kernel), List.mem_of_getElem? (i := 270) (by decide +kernel), List.mem_of_getElem? (i := 271) (by decide +kernel)⟩
theorem lw_p22 : lw_okq (⟨"GaveTheDayBefore$Letters", "forget", "()V"⟩, 3) := ⟨⟨by decide +kernel, by decide +kernel⟩, List.mem_of_getElem? (i := 117) (by decide +kernel), List.mem_of_getElem? (i := 274) (by decide +kernel), List.mem_of_getElem? (i := 275) (by decide +kernel)⟩
theorem lw_p23 : lw_okq (⟨"GaveTheDayBefore$Village", "exists", "(I)Z"⟩, 9) := ⟨⟨by decide +kernel, by decide +kernel⟩, List.mem_of_getElem? (i := 19) (by decide +kernel), List.mem_of_getElem? (i := 282) (by decide +kernel), List.mem_of_getElem? (i := 283) (by decide +kernel)⟩
theorem lw_p24 : lw_okq (⟨"GaveTheDayBefore$Gifts", "gotToday", "(I)I"⟩, 3) := ⟨⟨by decide +kernel, by decide +kernel⟩, List.mem_of_getElem? (i := 25) (by decide +kernel), List.mem_of_getElem? (i := 286) (by decide +kernel), List.mem_of_getElem? (i := 287) (by decide +kernel)⟩
theorem lw_p25 : lw_okq (⟨"GaveTheDayBefore$Gifts", "got", "(II)I"⟩, 3) := ⟨⟨by decide +kernel, by decide +kernel⟩, List.mem_of_getElem? (i := 25) (by decide +kernel), List.mem_of_getElem? (i := 290) (by decide +kernel), List.mem_of_getElem? (i := 291) (by decide +kernel)⟩
theorem lw_p26 : lw_okq (⟨"GaveTheDayBefore$Village", "leave", "(I)I"⟩, 9) := ⟨⟨by decide +kernel, by decide +kernel⟩, List.mem_of_getElem? (i := 19) (by decide +kernel), List.mem_of_getElem? (i := 294) (by decide +kernel), List.mem_of_getElem? (i := 295) (by decide +kernel)⟩
theorem lw_p27 : lw_okq (⟨"GaveTheDayBefore$Gifts", "countedYesterday", "(I)I"⟩, 3) := ⟨⟨by decide +kernel, by decide +kernel⟩, List.mem_of_getElem? (i := 25) (by decide +kernel), List.mem_of_getElem? (i := 298) (by decide +kernel), List.mem_of_getElem? (i := 299) (by decide +kernel)⟩
theorem lw_p28 : lw_okq (⟨"GaveTheDayBefore$Village", "bounded", "(I)I"⟩, 9) := ⟨⟨by decide +kernel, by decide +kernel⟩, List.mem_of_getElem? (i := 19) (by decide +kernel), List.mem_of_getElem? (i := 302) (by decide +kernel), List.mem_of_getElem? (i := 303) (by decide +kernel)⟩
theorem lw_p29 : lw_okq (⟨"GaveTheDayBefore$Gifts", "countedTogether", "(II)I"⟩, 3) := ⟨⟨by decide +kernel, by decide +kernel⟩, List.mem_of_getElem? (i := 25) (by decide +kernel), List.mem_of_getElem? (i := 312) (by decide +kernel), List.mem_of_getElem? (i := 313) (by decide +kernel)⟩
theorem lw_p30 : lw_okq (⟨"GaveTheDayBefore$Gifts", "countedAtBest", "(II)I"⟩, 3) := ⟨⟨by decide +kernel, by decide +kernel⟩, List.mem_of_getElem? (i := 25) (by decide +kernel), List.mem_of_getElem? (i := 316) (by decide +kernel), List.mem_of_getElem? (i := 317) (by decide +kernel)⟩
theorem lw_p31 : lw_okq (⟨"GaveTheDayBefore$Gifts", "givenToday", "(I)I"⟩, 3) := ⟨⟨by decide +kernel, by decide +kernel⟩, List.mem_of_getElem? (i := 25) (by decide +kernel), List.mem_of_getElem? (i := 321) (by decide +kernel), List.mem_of_getElem? (i := 322) (by decide +kernel)⟩
def lw_privs_2 : List (MethodName × Nat) := [(⟨"GaveTheDayBefore$Gifts", "countPastDays", "(I)V"⟩, 3), (⟨"GaveTheDayBefore$Gifts", "countDay", "(II)V"⟩, 3), (⟨"GaveTheDayBefore$Gifts", "countOf", "(IIJ)I"⟩, 3), (⟨"GaveTheDayBefore$Letters", "number", "(I)I"⟩, 3), (⟨"GaveTheDayBefore$Letters", "next", "(II)I"⟩, 3), (⟨"GaveTheDayBefore$Village", "welcome", "(IIIII)Z"⟩, 9), (⟨"GaveTheDayBefore$Letters", "forget", "()V"⟩, 3), (⟨"GaveTheDayBefore$Village", "exists", "(I)Z"⟩, 9), (⟨"GaveTheDayBefore$Gifts", "gotToday", "(I)I"⟩, 3), (⟨"GaveTheDayBefore$Gifts", "got", "(II)I"⟩, 3), (⟨"GaveTheDayBefore$Village", "leave", "(I)I"⟩, 9), (⟨"GaveTheDayBefore$Gifts", "countedYesterday", "(I)I"⟩, 3), (⟨"GaveTheDayBefore$Village", "bounded", "(I)I"⟩, 9), (⟨"GaveTheDayBefore$Gifts", "countedTogether", "(II)I"⟩, 3), (⟨"GaveTheDayBefore$Gifts", "countedAtBest", "(II)I"⟩, 3), (⟨"GaveTheDayBefore$Gifts", "givenToday", "(I)I"⟩, 3)]
theorem lw_r2 : ∀ q ∈ lw_privs_2, lw_okq q := List.forall_mem_cons.mpr ⟨lw_p16, List.forall_mem_cons.mpr ⟨lw_p17, List.forall_mem_cons.mpr ⟨lw_p18, List.forall_mem_cons.mpr ⟨lw_p19, List.forall_mem_cons.mpr ⟨lw_p20, List.forall_mem_cons.mpr ⟨lw_p21, List.forall_mem_cons.mpr ⟨lw_p22, List.forall_mem_cons.mpr ⟨lw_p23, List.forall_mem_cons.mpr ⟨lw_p24, List.forall_mem_cons.mpr ⟨lw_p25, List.forall_mem_cons.mpr ⟨lw_p26, List.forall_mem_cons.mpr ⟨lw_p27, List.forall_mem_cons.mpr ⟨lw_p28, List.forall_mem_cons.mpr ⟨lw_p29, List.forall_mem_cons.mpr ⟨lw_p30, List.forall_mem_cons.mpr ⟨lw_p31, fun _ h => absurd h List.not_mem_nil⟩⟩⟩⟩⟩⟩⟩⟩⟩⟩⟩⟩⟩⟩⟩⟩
theorem lw_p32 : lw_okq (⟨"GaveTheDayBefore", "putRefusal", "(III)I"⟩, 10) := ⟨⟨by decide +kernel, by decide +kernel⟩, List.mem_of_getElem? (i := 11) (by decide +kernel), List.mem_of_getElem? (i := 330) (by decide +kernel), List.mem_of_getElem? (i := 331) (by decide +kernel)⟩
theorem lw_p33 : lw_okq (⟨"GaveTheDayBefore$Village", "giftRefusal", "(III)I"⟩, 9) := ⟨⟨by decide +kernel, by decide +kernel⟩, List.mem_of_getElem? (i := 19) (by decide +kernel), List.mem_of_getElem? (i := 346) (by decide +kernel), List.mem_of_getElem? (i := 347) (by decide +kernel)⟩
theorem lw_p34 : lw_okq (⟨"GaveTheDayBefore$Village", "hand", "(III)V"⟩, 9) := ⟨⟨by decide +kernel, by decide +kernel⟩, List.mem_of_getElem? (i := 19) (by decide +kernel), List.mem_of_getElem? (i := 351) (by decide +kernel), List.mem_of_getElem? (i := 352) (by decide +kernel)⟩
theorem lw_p35 : lw_okq (⟨"GaveTheDayBefore$Gifts", "add", "(III)V"⟩, 3) := ⟨⟨by decide +kernel, by decide +kernel⟩, List.mem_of_getElem? (i := 25) (by decide +kernel), List.mem_of_getElem? (i := 355) (by decide +kernel), List.mem_of_getElem? (i := 356) (by decide +kernel)⟩
theorem lw_p36 : lw_okq (⟨"GaveTheDayBefore$Village", "endDay", "()I"⟩, 9) := ⟨⟨by decide +kernel, by decide +kernel⟩, List.mem_of_getElem? (i := 19) (by decide +kernel), List.mem_of_getElem? (i := 363) (by decide +kernel), List.mem_of_getElem? (i := 364) (by decide +kernel)⟩
theorem lw_p37 : lw_okq (⟨"GaveTheDayBefore$Gifts", "turnToNextDay", "()V"⟩, 3) := ⟨⟨by decide +kernel, by decide +kernel⟩, List.mem_of_getElem? (i := 25) (by decide +kernel), List.mem_of_getElem? (i := 370) (by decide +kernel), List.mem_of_getElem? (i := 371) (by decide +kernel)⟩
theorem lw_p38 : lw_okq (⟨"GaveTheDayBefore$Village", "passDay", "()I"⟩, 9) := ⟨⟨by decide +kernel, by decide +kernel⟩, List.mem_of_getElem? (i := 19) (by decide +kernel), List.mem_of_getElem? (i := 378) (by decide +kernel), List.mem_of_getElem? (i := 379) (by decide +kernel)⟩
theorem lw_p39 : lw_okq (⟨"GaveTheDayBefore$Village", "takerByKind", "(I)I"⟩, 9) := ⟨⟨by decide +kernel, by decide +kernel⟩, List.mem_of_getElem? (i := 19) (by decide +kernel), List.mem_of_getElem? (i := 382) (by decide +kernel), List.mem_of_getElem? (i := 383) (by decide +kernel)⟩
theorem lw_p40 : lw_okq (⟨"GaveTheDayBefore$Village", "nextOne", "(I)I"⟩, 9) := ⟨⟨by decide +kernel, by decide +kernel⟩, List.mem_of_getElem? (i := 19) (by decide +kernel), List.mem_of_getElem? (i := 386) (by decide +kernel), List.mem_of_getElem? (i := 387) (by decide +kernel)⟩
theorem lw_p41 : lw_okq (⟨"GaveTheDayBefore$Village", "amountByKind", "(I)I"⟩, 9) := ⟨⟨by decide +kernel, by decide +kernel⟩, List.mem_of_getElem? (i := 19) (by decide +kernel), List.mem_of_getElem? (i := 390) (by decide +kernel), List.mem_of_getElem? (i := 391) (by decide +kernel)⟩
theorem lw_p42 : lw_okq (⟨"GaveTheDayBefore$Village", "whatGrew", "(I)I"⟩, 9) := ⟨⟨by decide +kernel, by decide +kernel⟩, List.mem_of_getElem? (i := 19) (by decide +kernel), List.mem_of_getElem? (i := 394) (by decide +kernel), List.mem_of_getElem? (i := 395) (by decide +kernel)⟩
theorem lw_p43 : lw_okq (⟨"GaveTheDayBefore$Gifts", "gotYesterday", "(I)I"⟩, 3) := ⟨⟨by decide +kernel, by decide +kernel⟩, List.mem_of_getElem? (i := 25) (by decide +kernel), List.mem_of_getElem? (i := 398) (by decide +kernel), List.mem_of_getElem? (i := 399) (by decide +kernel)⟩
theorem lw_p44 : lw_okq (⟨"GaveTheDayBefore$Village", "handIfAny", "(III)V"⟩, 9) := ⟨⟨by decide +kernel, by decide +kernel⟩, List.mem_of_getElem? (i := 19) (by decide +kernel), List.mem_of_getElem? (i := 405) (by decide +kernel), List.mem_of_getElem? (i := 406) (by decide +kernel)⟩
theorem lw_p45 : lw_okq (⟨"GaveTheDayBefore$Village", "giftByKind", "(I)I"⟩, 9) := ⟨⟨by decide +kernel, by decide +kernel⟩, List.mem_of_getElem? (i := 19) (by decide +kernel), List.mem_of_getElem? (i := 415) (by decide +kernel), List.mem_of_getElem? (i := 416) (by decide +kernel)⟩
theorem lw_p46 : lw_okq (⟨"GaveTheDayBefore", "ofOneRefusal", "(IIII)I"⟩, 10) := ⟨⟨by decide +kernel, by decide +kernel⟩, List.mem_of_getElem? (i := 11) (by decide +kernel), List.mem_of_getElem? (i := 423) (by decide +kernel), List.mem_of_getElem? (i := 424) (by decide +kernel)⟩
theorem lw_p47 : lw_okq (⟨"GaveTheDayBefore", "think", "(I)V"⟩, 10) := ⟨⟨by decide +kernel, by decide +kernel⟩, List.mem_of_getElem? (i := 11) (by decide +kernel), List.mem_of_getElem? (i := 427) (by decide +kernel), List.mem_of_getElem? (i := 428) (by decide +kernel)⟩
def lw_privs_3 : List (MethodName × Nat) := [(⟨"GaveTheDayBefore", "putRefusal", "(III)I"⟩, 10), (⟨"GaveTheDayBefore$Village", "giftRefusal", "(III)I"⟩, 9), (⟨"GaveTheDayBefore$Village", "hand", "(III)V"⟩, 9), (⟨"GaveTheDayBefore$Gifts", "add", "(III)V"⟩, 3), (⟨"GaveTheDayBefore$Village", "endDay", "()I"⟩, 9), (⟨"GaveTheDayBefore$Gifts", "turnToNextDay", "()V"⟩, 3), (⟨"GaveTheDayBefore$Village", "passDay", "()I"⟩, 9), (⟨"GaveTheDayBefore$Village", "takerByKind", "(I)I"⟩, 9), (⟨"GaveTheDayBefore$Village", "nextOne", "(I)I"⟩, 9), (⟨"GaveTheDayBefore$Village", "amountByKind", "(I)I"⟩, 9), (⟨"GaveTheDayBefore$Village", "whatGrew", "(I)I"⟩, 9), (⟨"GaveTheDayBefore$Gifts", "gotYesterday", "(I)I"⟩, 3), (⟨"GaveTheDayBefore$Village", "handIfAny", "(III)V"⟩, 9), (⟨"GaveTheDayBefore$Village", "giftByKind", "(I)I"⟩, 9), (⟨"GaveTheDayBefore", "ofOneRefusal", "(IIII)I"⟩, 10), (⟨"GaveTheDayBefore", "think", "(I)V"⟩, 10)]
theorem lw_r3 : ∀ q ∈ lw_privs_3, lw_okq q := List.forall_mem_cons.mpr ⟨lw_p32, List.forall_mem_cons.mpr ⟨lw_p33, List.forall_mem_cons.mpr ⟨lw_p34, List.forall_mem_cons.mpr ⟨lw_p35, List.forall_mem_cons.mpr ⟨lw_p36, List.forall_mem_cons.mpr ⟨lw_p37, List.forall_mem_cons.mpr ⟨lw_p38, List.forall_mem_cons.mpr ⟨lw_p39, List.forall_mem_cons.mpr ⟨lw_p40, List.forall_mem_cons.mpr ⟨lw_p41, List.forall_mem_cons.mpr ⟨lw_p42, List.forall_mem_cons.mpr ⟨lw_p43, List.forall_mem_cons.mpr ⟨lw_p44, List.forall_mem_cons.mpr ⟨lw_p45, List.forall_mem_cons.mpr ⟨lw_p46, List.forall_mem_cons.mpr ⟨lw_p47, fun _ h => absurd h List.not_mem_nil⟩⟩⟩⟩⟩⟩⟩⟩⟩⟩⟩⟩⟩⟩⟩⟩
theorem lw_p48 : lw_okq (⟨"GaveTheDayBefore$Village", "passDays", "(I)V"⟩, 9) := ⟨⟨by decide +kernel, by decide +kernel⟩, List.mem_of_getElem? (i := 19) (by decide +kernel), List.mem_of_getElem? (i := 431) (by decide +kernel), List.mem_of_getElem? (i := 432) (by decide +kernel)⟩
theorem lw_p49 : lw_okq (⟨"GaveTheDayBefore$Village", "sumOfHas", "()I"⟩, 9) := ⟨⟨by decide +kernel, by decide +kernel⟩, List.mem_of_getElem? (i := 19) (by decide +kernel), List.mem_of_getElem? (i := 440) (by decide +kernel), List.mem_of_getElem? (i := 441) (by decide +kernel)⟩
theorem lw_p50 : lw_okq (⟨"GaveTheDayBefore$Village", "richestAbove", "(I)I"⟩, 9) := ⟨⟨by decide +kernel, by decide +kernel⟩, List.mem_of_getElem? (i := 19) (by decide +kernel), List.mem_of_getElem? (i := 452) (by decide +kernel), List.mem_of_getElem? (i := 453) (by decide +kernel)⟩
theorem lw_p51 : lw_okq (⟨"GaveTheDayBefore", "quietDayInMind", "()Z"⟩, 10) := ⟨⟨by decide +kernel, by decide +kernel⟩, List.mem_of_getElem? (i := 11) (by decide +kernel), List.mem_of_getElem? (i := 468) (by decide +kernel), List.mem_of_getElem? (i := 469) (by decide +kernel)⟩
theorem lw_p52 : lw_okq (⟨"GaveTheDayBefore$Search", "run", "(LGaveTheDayBefore$Village;III)V"⟩, 8) := ⟨⟨by decide +kernel, by decide +kernel⟩, List.mem_of_getElem? (i := 80) (by decide +kernel), List.mem_of_getElem? (i := 477) (by decide +kernel), List.mem_of_getElem? (i := 478) (by decide +kernel)⟩
theorem lw_p53 : lw_okq (⟨"GaveTheDayBefore$Search", "look", "(I)V"⟩, 8) := ⟨⟨by decide +kernel, by decide +kernel⟩, List.mem_of_getElem? (i := 80) (by decide +kernel), List.mem_of_getElem? (i := 486) (by decide +kernel), List.mem_of_getElem? (i := 487) (by decide +kernel)⟩
theorem lw_p54 : lw_okq (⟨"GaveTheDayBefore$Village", "passDayOfOne", "(II)V"⟩, 9) := ⟨⟨by decide +kernel, by decide +kernel⟩, List.mem_of_getElem? (i := 19) (by decide +kernel), List.mem_of_getElem? (i := 491) (by decide +kernel), List.mem_of_getElem? (i := 492) (by decide +kernel)⟩
theorem lw_p55 : lw_okq (⟨"GaveTheDayBefore", "ofOneTwiceRefusal", "(III)I"⟩, 10) := ⟨⟨by decide +kernel, by decide +kernel⟩, List.mem_of_getElem? (i := 11) (by decide +kernel), List.mem_of_getElem? (i := 508) (by decide +kernel), List.mem_of_getElem? (i := 509) (by decide +kernel)⟩
theorem lw_p56 : lw_okq (⟨"GaveTheDayBefore$Village", "whoCannotBegin", "()I"⟩, 9) := ⟨⟨by decide +kernel, by decide +kernel⟩, List.mem_of_getElem? (i := 19) (by decide +kernel), List.mem_of_getElem? (i := 516) (by decide +kernel), List.mem_of_getElem? (i := 517) (by decide +kernel)⟩
theorem lw_p57 : lw_okq (⟨"GaveTheDayBefore$Village", "isSomebodysTaker", "(I)Z"⟩, 9) := ⟨⟨by decide +kernel, by decide +kernel⟩, List.mem_of_getElem? (i := 19) (by decide +kernel), List.mem_of_getElem? (i := 520) (by decide +kernel), List.mem_of_getElem? (i := 521) (by decide +kernel)⟩
theorem lw_p58 : lw_okq (⟨"GaveTheDayBefore", "hasByLaw", "(III)I"⟩, 10) := ⟨⟨by decide +kernel, by decide +kernel⟩, List.mem_of_getElem? (i := 11) (by decide +kernel), List.mem_of_getElem? (i := 538) (by decide +kernel), List.mem_of_getElem? (i := 539) (by decide +kernel)⟩
theorem lw_p59 : lw_okq (⟨"GaveTheDayBefore", "lookAtBook", "(IZ)I"⟩, 10) := ⟨⟨by decide +kernel, by decide +kernel⟩, List.mem_of_getElem? (i := 11) (by decide +kernel), List.mem_of_getElem? (i := 558) (by decide +kernel), List.mem_of_getElem? (i := 559) (by decide +kernel)⟩
theorem lw_p60 : lw_okq (⟨"GaveTheDayBefore", "firstImpossibleGift", "()I"⟩, 10) := ⟨⟨by decide +kernel, by decide +kernel⟩, List.mem_of_getElem? (i := 11) (by decide +kernel), List.mem_of_getElem? (i := 570) (by decide +kernel), List.mem_of_getElem? (i := 571) (by decide +kernel)⟩
theorem lw_p61 : lw_okq (⟨"GaveTheDayBefore$Village", "find", "(II)V"⟩, 9) := ⟨⟨by decide +kernel, by decide +kernel⟩, List.mem_of_getElem? (i := 19) (by decide +kernel), List.mem_of_getElem? (i := 587) (by decide +kernel), List.mem_of_getElem? (i := 588) (by decide +kernel)⟩
theorem lw_p62 : lw_okq (⟨"GaveTheDayBefore$Village", "sumOfLying", "()I"⟩, 9) := ⟨⟨by decide +kernel, by decide +kernel⟩, List.mem_of_getElem? (i := 19) (by decide +kernel), List.mem_of_getElem? (i := 603) (by decide +kernel), List.mem_of_getElem? (i := 604) (by decide +kernel)⟩
theorem lw_p63 : lw_okq (⟨"GaveTheDayBefore$Village", "sumOfGiven", "()I"⟩, 9) := ⟨⟨by decide +kernel, by decide +kernel⟩, List.mem_of_getElem? (i := 19) (by decide +kernel), List.mem_of_getElem? (i := 607) (by decide +kernel), List.mem_of_getElem? (i := 608) (by decide +kernel)⟩
def lw_privs_4 : List (MethodName × Nat) := [(⟨"GaveTheDayBefore$Village", "passDays", "(I)V"⟩, 9), (⟨"GaveTheDayBefore$Village", "sumOfHas", "()I"⟩, 9), (⟨"GaveTheDayBefore$Village", "richestAbove", "(I)I"⟩, 9), (⟨"GaveTheDayBefore", "quietDayInMind", "()Z"⟩, 10), (⟨"GaveTheDayBefore$Search", "run", "(LGaveTheDayBefore$Village;III)V"⟩, 8), (⟨"GaveTheDayBefore$Search", "look", "(I)V"⟩, 8), (⟨"GaveTheDayBefore$Village", "passDayOfOne", "(II)V"⟩, 9), (⟨"GaveTheDayBefore", "ofOneTwiceRefusal", "(III)I"⟩, 10), (⟨"GaveTheDayBefore$Village", "whoCannotBegin", "()I"⟩, 9), (⟨"GaveTheDayBefore$Village", "isSomebodysTaker", "(I)Z"⟩, 9), (⟨"GaveTheDayBefore", "hasByLaw", "(III)I"⟩, 10), (⟨"GaveTheDayBefore", "lookAtBook", "(IZ)I"⟩, 10), (⟨"GaveTheDayBefore", "firstImpossibleGift", "()I"⟩, 10), (⟨"GaveTheDayBefore$Village", "find", "(II)V"⟩, 9), (⟨"GaveTheDayBefore$Village", "sumOfLying", "()I"⟩, 9), (⟨"GaveTheDayBefore$Village", "sumOfGiven", "()I"⟩, 9)]
theorem lw_r4 : ∀ q ∈ lw_privs_4, lw_okq q := List.forall_mem_cons.mpr ⟨lw_p48, List.forall_mem_cons.mpr ⟨lw_p49, List.forall_mem_cons.mpr ⟨lw_p50, List.forall_mem_cons.mpr ⟨lw_p51, List.forall_mem_cons.mpr ⟨lw_p52, List.forall_mem_cons.mpr ⟨lw_p53, List.forall_mem_cons.mpr ⟨lw_p54, List.forall_mem_cons.mpr ⟨lw_p55, List.forall_mem_cons.mpr ⟨lw_p56, List.forall_mem_cons.mpr ⟨lw_p57, List.forall_mem_cons.mpr ⟨lw_p58, List.forall_mem_cons.mpr ⟨lw_p59, List.forall_mem_cons.mpr ⟨lw_p60, List.forall_mem_cons.mpr ⟨lw_p61, List.forall_mem_cons.mpr ⟨lw_p62, List.forall_mem_cons.mpr ⟨lw_p63, fun _ h => absurd h List.not_mem_nil⟩⟩⟩⟩⟩⟩⟩⟩⟩⟩⟩⟩⟩⟩⟩⟩
theorem lw_p64 : lw_okq (⟨"GaveTheDayBeforeModel", "refuse", "(I)I"⟩, 39) := ⟨⟨by decide +kernel, by decide +kernel⟩, List.mem_of_getElem? (i := 612) (by decide +kernel), List.mem_of_getElem? (i := 740) (by decide +kernel), List.mem_of_getElem? (i := 741) (by decide +kernel)⟩
theorem lw_p65 : lw_okq (⟨"GaveTheDayBeforeModel", "readStatement", "()V"⟩, 39) := ⟨⟨by decide +kernel, by decide +kernel⟩, List.mem_of_getElem? (i := 612) (by decide +kernel), List.mem_of_getElem? (i := 748) (by decide +kernel), List.mem_of_getElem? (i := 749) (by decide +kernel)⟩
theorem lw_p66 : lw_okq (⟨"GaveTheDayBeforeModel", "here", "()I"⟩, 39) := ⟨⟨by decide +kernel, by decide +kernel⟩, List.mem_of_getElem? (i := 612) (by decide +kernel), List.mem_of_getElem? (i := 752) (by decide +kernel), List.mem_of_getElem? (i := 753) (by decide +kernel)⟩
theorem lw_p67 : lw_okq (⟨"GaveTheDayBeforeModel", "readDigit", "()I"⟩, 39) := ⟨⟨by decide +kernel, by decide +kernel⟩, List.mem_of_getElem? (i := 612) (by decide +kernel), List.mem_of_getElem? (i := 756) (by decide +kernel), List.mem_of_getElem? (i := 757) (by decide +kernel)⟩
theorem lw_p68 : lw_okq (⟨"GaveTheDayBeforeModel", "readNumber", "(I)I"⟩, 39) := ⟨⟨by decide +kernel, by decide +kernel⟩, List.mem_of_getElem? (i := 612) (by decide +kernel), List.mem_of_getElem? (i := 765) (by decide +kernel), List.mem_of_getElem? (i := 766) (by decide +kernel)⟩
theorem lw_p69 : lw_okq (⟨"GaveTheDayBeforeModel", "take", "(I)V"⟩, 39) := ⟨⟨by decide +kernel, by decide +kernel⟩, List.mem_of_getElem? (i := 612) (by decide +kernel), List.mem_of_getElem? (i := 769) (by decide +kernel), List.mem_of_getElem? (i := 770) (by decide +kernel)⟩
theorem lw_p70 : lw_okq (⟨"GaveTheDayBeforeModel", "isGood", "(I)Z"⟩, 39) := ⟨⟨by decide +kernel, by decide +kernel⟩, List.mem_of_getElem? (i := 612) (by decide +kernel), List.mem_of_getElem? (i := 773) (by decide +kernel), List.mem_of_getElem? (i := 774) (by decide +kernel)⟩
theorem lw_p71 : lw_okq (⟨"GaveTheDayBeforeModel", "comes", "(I)V"⟩, 39) := ⟨⟨by decide +kernel, by decide +kernel⟩, List.mem_of_getElem? (i := 612) (by decide +kernel), List.mem_of_getElem? (i := 778) (by decide +kernel), List.mem_of_getElem? (i := 779) (by decide +kernel)⟩
theorem lw_p72 : lw_okq (⟨"GaveTheDayBeforeModel", "isOne", "(I)Z"⟩, 39) := ⟨⟨by decide +kernel, by decide +kernel⟩, List.mem_of_getElem? (i := 612) (by decide +kernel), List.mem_of_getElem? (i := 786) (by decide +kernel), List.mem_of_getElem? (i := 787) (by decide +kernel)⟩
theorem lw_p73 : lw_okq (⟨"GaveTheDayBeforeModel", "got", "(II)I"⟩, 39) := ⟨⟨by decide +kernel, by decide +kernel⟩, List.mem_of_getElem? (i := 612) (by decide +kernel), List.mem_of_getElem? (i := 791) (by decide +kernel), List.mem_of_getElem? (i := 792) (by decide +kernel)⟩
theorem lw_p74 : lw_okq (⟨"GaveTheDayBeforeModel", "gift", "(III)I"⟩, 39) := ⟨⟨by decide +kernel, by decide +kernel⟩, List.mem_of_getElem? (i := 612) (by decide +kernel), List.mem_of_getElem? (i := 795) (by decide +kernel), List.mem_of_getElem? (i := 796) (by decide +kernel)⟩
theorem lw_p75 : lw_okq (⟨"GaveTheDayBeforeModel", "leave", "(I)I"⟩, 39) := ⟨⟨by decide +kernel, by decide +kernel⟩, List.mem_of_getElem? (i := 612) (by decide +kernel), List.mem_of_getElem? (i := 799) (by decide +kernel), List.mem_of_getElem? (i := 800) (by decide +kernel)⟩
theorem lw_p76 : lw_okq (⟨"GaveTheDayBeforeModel", "counted", "(II)I"⟩, 39) := ⟨⟨by decide +kernel, by decide +kernel⟩, List.mem_of_getElem? (i := 612) (by decide +kernel), List.mem_of_getElem? (i := 803) (by decide +kernel), List.mem_of_getElem? (i := 804) (by decide +kernel)⟩
theorem lw_p77 : lw_okq (⟨"GaveTheDayBeforeModel", "cameBack", "(III)Z"⟩, 39) := ⟨⟨by decide +kernel, by decide +kernel⟩, List.mem_of_getElem? (i := 612) (by decide +kernel), List.mem_of_getElem? (i := 807) (by decide +kernel), List.mem_of_getElem? (i := 808) (by decide +kernel)⟩
theorem lw_p78 : lw_okq (⟨"GaveTheDayBeforeModel", "given", "(II)I"⟩, 39) := ⟨⟨by decide +kernel, by decide +kernel⟩, List.mem_of_getElem? (i := 612) (by decide +kernel), List.mem_of_getElem? (i := 814) (by decide +kernel), List.mem_of_getElem? (i := 815) (by decide +kernel)⟩
theorem lw_p79 : lw_okq (⟨"GaveTheDayBeforeModel", "wrongGift", "(III)I"⟩, 39) := ⟨⟨by decide +kernel, by decide +kernel⟩, List.mem_of_getElem? (i := 612) (by decide +kernel), List.mem_of_getElem? (i := 832) (by decide +kernel), List.mem_of_getElem? (i := 833) (by decide +kernel)⟩
def lw_privs_5 : List (MethodName × Nat) := [(⟨"GaveTheDayBeforeModel", "refuse", "(I)I"⟩, 39), (⟨"GaveTheDayBeforeModel", "readStatement", "()V"⟩, 39), (⟨"GaveTheDayBeforeModel", "here", "()I"⟩, 39), (⟨"GaveTheDayBeforeModel", "readDigit", "()I"⟩, 39), (⟨"GaveTheDayBeforeModel", "readNumber", "(I)I"⟩, 39), (⟨"GaveTheDayBeforeModel", "take", "(I)V"⟩, 39), (⟨"GaveTheDayBeforeModel", "isGood", "(I)Z"⟩, 39), (⟨"GaveTheDayBeforeModel", "comes", "(I)V"⟩, 39), (⟨"GaveTheDayBeforeModel", "isOne", "(I)Z"⟩, 39), (⟨"GaveTheDayBeforeModel", "got", "(II)I"⟩, 39), (⟨"GaveTheDayBeforeModel", "gift", "(III)I"⟩, 39), (⟨"GaveTheDayBeforeModel", "leave", "(I)I"⟩, 39), (⟨"GaveTheDayBeforeModel", "counted", "(II)I"⟩, 39), (⟨"GaveTheDayBeforeModel", "cameBack", "(III)Z"⟩, 39), (⟨"GaveTheDayBeforeModel", "given", "(II)I"⟩, 39), (⟨"GaveTheDayBeforeModel", "wrongGift", "(III)I"⟩, 39)]
theorem lw_r5 : ∀ q ∈ lw_privs_5, lw_okq q := List.forall_mem_cons.mpr ⟨lw_p64, List.forall_mem_cons.mpr ⟨lw_p65, List.forall_mem_cons.mpr ⟨lw_p66, List.forall_mem_cons.mpr ⟨lw_p67, List.forall_mem_cons.mpr ⟨lw_p68, List.forall_mem_cons.mpr ⟨lw_p69, List.forall_mem_cons.mpr ⟨lw_p70, List.forall_mem_cons.mpr ⟨lw_p71, List.forall_mem_cons.mpr ⟨lw_p72, List.forall_mem_cons.mpr ⟨lw_p73, List.forall_mem_cons.mpr ⟨lw_p74, List.forall_mem_cons.mpr ⟨lw_p75, List.forall_mem_cons.mpr ⟨lw_p76, List.forall_mem_cons.mpr ⟨lw_p77, List.forall_mem_cons.mpr ⟨lw_p78, List.forall_mem_cons.mpr ⟨lw_p79, fun _ h => absurd h List.not_mem_nil⟩⟩⟩⟩⟩⟩⟩⟩⟩⟩⟩⟩⟩⟩⟩⟩
theorem lw_p80 : lw_okq (⟨"GaveTheDayBeforeModel", "addGift", "(III)V"⟩, 39) := ⟨⟨by decide +kernel, by decide +kernel⟩, List.mem_of_getElem? (i := 612) (by decide +kernel), List.mem_of_getElem? (i := 836) (by decide +kernel), List.mem_of_getElem? (i := 837) (by decide +kernel)⟩
theorem lw_p81 : lw_okq (⟨"GaveTheDayBeforeModel", "endDay", "()V"⟩, 39) := ⟨⟨by decide +kernel, by decide +kernel⟩, List.mem_of_getElem? (i := 612) (by decide +kernel), List.mem_of_getElem? (i := 844) (by decide +kernel), List.mem_of_getElem? (i := 845) (by decide +kernel)⟩
theorem lw_p82 : lw_okq (⟨"GaveTheDayBeforeModel", "dayOn", "()V"⟩, 39) := ⟨⟨by decide +kernel, by decide +kernel⟩, List.mem_of_getElem? (i := 612) (by decide +kernel), List.mem_of_getElem? (i := 852) (by decide +kernel), List.mem_of_getElem? (i := 853) (by decide +kernel)⟩
theorem lw_p83 : lw_okq (⟨"GaveTheDayBeforeModel", "giveByKind", "(I)V"⟩, 39) := ⟨⟨by decide +kernel, by decide +kernel⟩, List.mem_of_getElem? (i := 612) (by decide +kernel), List.mem_of_getElem? (i := 856) (by decide +kernel), List.mem_of_getElem? (i := 857) (by decide +kernel)⟩
theorem lw_p84 : lw_okq (⟨"GaveTheDayBeforeModel", "byKind", "(I)I"⟩, 39) := ⟨⟨by decide +kernel, by decide +kernel⟩, List.mem_of_getElem? (i := 612) (by decide +kernel), List.mem_of_getElem? (i := 860) (by decide +kernel), List.mem_of_getElem? (i := 861) (by decide +kernel)⟩
theorem lw_p85 : lw_okq (⟨"GaveTheDayBeforeModel", "target", "(I)I"⟩, 39) := ⟨⟨by decide +kernel, by decide +kernel⟩, List.mem_of_getElem? (i := 612) (by decide +kernel), List.mem_of_getElem? (i := 864) (by decide +kernel), List.mem_of_getElem? (i := 865) (by decide +kernel)⟩
theorem lw_p86 : lw_okq (⟨"GaveTheDayBeforeModel", "grown", "(I)I"⟩, 39) := ⟨⟨by decide +kernel, by decide +kernel⟩, List.mem_of_getElem? (i := 612) (by decide +kernel), List.mem_of_getElem? (i := 868) (by decide +kernel), List.mem_of_getElem? (i := 869) (by decide +kernel)⟩
theorem lw_p87 : lw_okq (⟨"GaveTheDayBeforeModel", "wrongOne", "(IIII)I"⟩, 39) := ⟨⟨by decide +kernel, by decide +kernel⟩, List.mem_of_getElem? (i := 612) (by decide +kernel), List.mem_of_getElem? (i := 880) (by decide +kernel), List.mem_of_getElem? (i := 881) (by decide +kernel)⟩
theorem lw_p88 : lw_okq (⟨"GaveTheDayBeforeModel", "hasAfter", "(II)I"⟩, 39) := ⟨⟨by decide +kernel, by decide +kernel⟩, List.mem_of_getElem? (i := 612) (by decide +kernel), List.mem_of_getElem? (i := 887) (by decide +kernel), List.mem_of_getElem? (i := 888) (by decide +kernel)⟩
theorem lw_p89 : lw_okq (⟨"GaveTheDayBeforeModel", "open", "()V"⟩, 39) := ⟨⟨by decide +kernel, by decide +kernel⟩, List.mem_of_getElem? (i := 612) (by decide +kernel), List.mem_of_getElem? (i := 891) (by decide +kernel), List.mem_of_getElem? (i := 892) (by decide +kernel)⟩
theorem lw_p90 : lw_okq (⟨"GaveTheDayBeforeModel", "carryDays", "([IZ)V"⟩, 39) := ⟨⟨by decide +kernel, by decide +kernel⟩, List.mem_of_getElem? (i := 612) (by decide +kernel), List.mem_of_getElem? (i := 895) (by decide +kernel), List.mem_of_getElem? (i := 896) (by decide +kernel)⟩
theorem lw_p91 : lw_okq (⟨"GaveTheDayBeforeModel", "carry", "(I)I"⟩, 39) := ⟨⟨by decide +kernel, by decide +kernel⟩, List.mem_of_getElem? (i := 612) (by decide +kernel), List.mem_of_getElem? (i := 899) (by decide +kernel), List.mem_of_getElem? (i := 900) (by decide +kernel)⟩
theorem lw_p92 : lw_okq (⟨"GaveTheDayBeforeModel", "run", "(I)V"⟩, 39) := ⟨⟨by decide +kernel, by decide +kernel⟩, List.mem_of_getElem? (i := 612) (by decide +kernel), List.mem_of_getElem? (i := 903) (by decide +kernel), List.mem_of_getElem? (i := 904) (by decide +kernel)⟩
theorem lw_p93 : lw_okq (⟨"GaveTheDayBeforeModel", "close", "()V"⟩, 39) := ⟨⟨by decide +kernel, by decide +kernel⟩, List.mem_of_getElem? (i := 612) (by decide +kernel), List.mem_of_getElem? (i := 907) (by decide +kernel), List.mem_of_getElem? (i := 908) (by decide +kernel)⟩
theorem lw_p94 : lw_okq (⟨"GaveTheDayBeforeModel", "allAfter", "(I)I"⟩, 39) := ⟨⟨by decide +kernel, by decide +kernel⟩, List.mem_of_getElem? (i := 612) (by decide +kernel), List.mem_of_getElem? (i := 915) (by decide +kernel), List.mem_of_getElem? (i := 916) (by decide +kernel)⟩
theorem lw_p95 : lw_okq (⟨"GaveTheDayBeforeModel", "all", "()I"⟩, 39) := ⟨⟨by decide +kernel, by decide +kernel⟩, List.mem_of_getElem? (i := 612) (by decide +kernel), List.mem_of_getElem? (i := 919) (by decide +kernel), List.mem_of_getElem? (i := 920) (by decide +kernel)⟩
def lw_privs_6 : List (MethodName × Nat) := [(⟨"GaveTheDayBeforeModel", "addGift", "(III)V"⟩, 39), (⟨"GaveTheDayBeforeModel", "endDay", "()V"⟩, 39), (⟨"GaveTheDayBeforeModel", "dayOn", "()V"⟩, 39), (⟨"GaveTheDayBeforeModel", "giveByKind", "(I)V"⟩, 39), (⟨"GaveTheDayBeforeModel", "byKind", "(I)I"⟩, 39), (⟨"GaveTheDayBeforeModel", "target", "(I)I"⟩, 39), (⟨"GaveTheDayBeforeModel", "grown", "(I)I"⟩, 39), (⟨"GaveTheDayBeforeModel", "wrongOne", "(IIII)I"⟩, 39), (⟨"GaveTheDayBeforeModel", "hasAfter", "(II)I"⟩, 39), (⟨"GaveTheDayBeforeModel", "open", "()V"⟩, 39), (⟨"GaveTheDayBeforeModel", "carryDays", "([IZ)V"⟩, 39), (⟨"GaveTheDayBeforeModel", "carry", "(I)I"⟩, 39), (⟨"GaveTheDayBeforeModel", "run", "(I)V"⟩, 39), (⟨"GaveTheDayBeforeModel", "close", "()V"⟩, 39), (⟨"GaveTheDayBeforeModel", "allAfter", "(I)I"⟩, 39), (⟨"GaveTheDayBeforeModel", "all", "()I"⟩, 39)]
theorem lw_r6 : ∀ q ∈ lw_privs_6, lw_okq q := List.forall_mem_cons.mpr ⟨lw_p80, List.forall_mem_cons.mpr ⟨lw_p81, List.forall_mem_cons.mpr ⟨lw_p82, List.forall_mem_cons.mpr ⟨lw_p83, List.forall_mem_cons.mpr ⟨lw_p84, List.forall_mem_cons.mpr ⟨lw_p85, List.forall_mem_cons.mpr ⟨lw_p86, List.forall_mem_cons.mpr ⟨lw_p87, List.forall_mem_cons.mpr ⟨lw_p88, List.forall_mem_cons.mpr ⟨lw_p89, List.forall_mem_cons.mpr ⟨lw_p90, List.forall_mem_cons.mpr ⟨lw_p91, List.forall_mem_cons.mpr ⟨lw_p92, List.forall_mem_cons.mpr ⟨lw_p93, List.forall_mem_cons.mpr ⟨lw_p94, List.forall_mem_cons.mpr ⟨lw_p95, fun _ h => absurd h List.not_mem_nil⟩⟩⟩⟩⟩⟩⟩⟩⟩⟩⟩⟩⟩⟩⟩⟩
theorem lw_p96 : lw_okq (⟨"GaveTheDayBeforeModel", "richestNow", "()I"⟩, 39) := ⟨⟨by decide +kernel, by decide +kernel⟩, List.mem_of_getElem? (i := 612) (by decide +kernel), List.mem_of_getElem? (i := 931) (by decide +kernel), List.mem_of_getElem? (i := 932) (by decide +kernel)⟩
theorem lw_p97 : lw_okq (⟨"GaveTheDayBeforeModel", "isAsThen", "()Z"⟩, 39) := ⟨⟨by decide +kernel, by decide +kernel⟩, List.mem_of_getElem? (i := 612) (by decide +kernel), List.mem_of_getElem? (i := 947) (by decide +kernel), List.mem_of_getElem? (i := 948) (by decide +kernel)⟩
theorem lw_p98 : lw_okq (⟨"GaveTheDayBeforeModel", "findMost", "(II)V"⟩, 39) := ⟨⟨by decide +kernel, by decide +kernel⟩, List.mem_of_getElem? (i := 612) (by decide +kernel), List.mem_of_getElem? (i := 955) (by decide +kernel), List.mem_of_getElem? (i := 956) (by decide +kernel)⟩
theorem lw_p99 : lw_okq (⟨"GaveTheDayBeforeModel", "byRow", "(III)I"⟩, 39) := ⟨⟨by decide +kernel, by decide +kernel⟩, List.mem_of_getElem? (i := 612) (by decide +kernel), List.mem_of_getElem? (i := 962) (by decide +kernel), List.mem_of_getElem? (i := 963) (by decide +kernel)⟩
theorem lw_p100 : lw_okq (⟨"GaveTheDayBeforeModel", "choose", "(II)V"⟩, 39) := ⟨⟨by decide +kernel, by decide +kernel⟩, List.mem_of_getElem? (i := 612) (by decide +kernel), List.mem_of_getElem? (i := 966) (by decide +kernel), List.mem_of_getElem? (i := 967) (by decide +kernel)⟩
theorem lw_p101 : lw_okq (⟨"GaveTheDayBeforeModel", "stuck", "()I"⟩, 39) := ⟨⟨by decide +kernel, by decide +kernel⟩, List.mem_of_getElem? (i := 612) (by decide +kernel), List.mem_of_getElem? (i := 987) (by decide +kernel), List.mem_of_getElem? (i := 988) (by decide +kernel)⟩
theorem lw_p102 : lw_okq (⟨"GaveTheDayBeforeModel", "isAimedAt", "(I)Z"⟩, 39) := ⟨⟨by decide +kernel, by decide +kernel⟩, List.mem_of_getElem? (i := 612) (by decide +kernel), List.mem_of_getElem? (i := 991) (by decide +kernel), List.mem_of_getElem? (i := 992) (by decide +kernel)⟩
theorem lw_p103 : lw_okq (⟨"GaveTheDayBeforeModel", "hasBy", "(IIII)I"⟩, 39) := ⟨⟨by decide +kernel, by decide +kernel⟩, List.mem_of_getElem? (i := 612) (by decide +kernel), List.mem_of_getElem? (i := 1003) (by decide +kernel), List.mem_of_getElem? (i := 1004) (by decide +kernel)⟩
theorem lw_p104 : lw_okq (⟨"GaveTheDayBeforeModel", "bookOf", "(IZ)I"⟩, 39) := ⟨⟨by decide +kernel, by decide +kernel⟩, List.mem_of_getElem? (i := 612) (by decide +kernel), List.mem_of_getElem? (i := 1023) (by decide +kernel), List.mem_of_getElem? (i := 1024) (by decide +kernel)⟩
theorem lw_p105 : lw_okq (⟨"GaveTheDayBeforeModel", "draw", "(I)I"⟩, 39) := ⟨⟨by decide +kernel, by decide +kernel⟩, List.mem_of_getElem? (i := 612) (by decide +kernel), List.mem_of_getElem? (i := 1039) (by decide +kernel), List.mem_of_getElem? (i := 1040) (by decide +kernel)⟩
theorem lw_p106 : lw_okq (⟨"GaveTheDayBeforeModel", "carryAll", "(Z)V"⟩, 39) := ⟨⟨by decide +kernel, by decide +kernel⟩, List.mem_of_getElem? (i := 612) (by decide +kernel), List.mem_of_getElem? (i := 1050) (by decide +kernel), List.mem_of_getElem? (i := 1051) (by decide +kernel)⟩
theorem lw_p107 : lw_okq (⟨"GaveTheDayBeforeModel", "carryMore", "(II)I"⟩, 39) := ⟨⟨by decide +kernel, by decide +kernel⟩, List.mem_of_getElem? (i := 612) (by decide +kernel), List.mem_of_getElem? (i := 1054) (by decide +kernel), List.mem_of_getElem? (i := 1055) (by decide +kernel)⟩
theorem lw_p108 : lw_okq (⟨"GaveTheDayBeforeModel", "sum", "(Z)I"⟩, 39) := ⟨⟨by decide +kernel, by decide +kernel⟩, List.mem_of_getElem? (i := 612) (by decide +kernel), List.mem_of_getElem? (i := 1066) (by decide +kernel), List.mem_of_getElem? (i := 1067) (by decide +kernel)⟩
def lw_privs_7 : List (MethodName × Nat) := [(⟨"GaveTheDayBeforeModel", "richestNow", "()I"⟩, 39), (⟨"GaveTheDayBeforeModel", "isAsThen", "()Z"⟩, 39), (⟨"GaveTheDayBeforeModel", "findMost", "(II)V"⟩, 39), (⟨"GaveTheDayBeforeModel", "byRow", "(III)I"⟩, 39), (⟨"GaveTheDayBeforeModel", "choose", "(II)V"⟩, 39), (⟨"GaveTheDayBeforeModel", "stuck", "()I"⟩, 39), (⟨"GaveTheDayBeforeModel", "isAimedAt", "(I)Z"⟩, 39), (⟨"GaveTheDayBeforeModel", "hasBy", "(IIII)I"⟩, 39), (⟨"GaveTheDayBeforeModel", "bookOf", "(IZ)I"⟩, 39), (⟨"GaveTheDayBeforeModel", "draw", "(I)I"⟩, 39), (⟨"GaveTheDayBeforeModel", "carryAll", "(Z)V"⟩, 39), (⟨"GaveTheDayBeforeModel", "carryMore", "(II)I"⟩, 39), (⟨"GaveTheDayBeforeModel", "sum", "(Z)I"⟩, 39)]
theorem lw_r7 : ∀ q ∈ lw_privs_7, lw_okq q := List.forall_mem_cons.mpr ⟨lw_p96, List.forall_mem_cons.mpr ⟨lw_p97, List.forall_mem_cons.mpr ⟨lw_p98, List.forall_mem_cons.mpr ⟨lw_p99, List.forall_mem_cons.mpr ⟨lw_p100, List.forall_mem_cons.mpr ⟨lw_p101, List.forall_mem_cons.mpr ⟨lw_p102, List.forall_mem_cons.mpr ⟨lw_p103, List.forall_mem_cons.mpr ⟨lw_p104, List.forall_mem_cons.mpr ⟨lw_p105, List.forall_mem_cons.mpr ⟨lw_p106, List.forall_mem_cons.mpr ⟨lw_p107, List.forall_mem_cons.mpr ⟨lw_p108, fun _ h => absurd h List.not_mem_nil⟩⟩⟩⟩⟩⟩⟩⟩⟩⟩⟩⟩⟩
def lw_privs : List (MethodName × Nat) := lw_privs_1 ++ (lw_privs_2 ++ (lw_privs_3 ++ (lw_privs_4 ++ (lw_privs_5 ++ (lw_privs_6 ++ (lw_privs_7))))))
def lw_tbl : List Cond := k2_sels lw_privs ++ tables_1
theorem lw_privs_ok : ∀ q ∈ lw_privs, lw_okq q := by
  show ∀ q ∈ lw_privs_1 ++ (lw_privs_2 ++ (lw_privs_3 ++ (lw_privs_4 ++ (lw_privs_5 ++ (lw_privs_6 ++ (lw_privs_7)))))), lw_okq q
  exact List.forall_mem_append.mpr ⟨lw_r1, List.forall_mem_append.mpr ⟨lw_r2, List.forall_mem_append.mpr ⟨lw_r3, List.forall_mem_append.mpr ⟨lw_r4, List.forall_mem_append.mpr ⟨lw_r5, List.forall_mem_append.mpr ⟨lw_r6, lw_r7⟩⟩⟩⟩⟩⟩

def RX0 : String := "GaveTheDayBefore$Gifts"
def TX0 : u_T := fun k => match k with
  | 0 => ("GaveTheDayBefore$Gifts", "amount", "[I", true)
  | 1 => ("GaveTheDayBefore$Gifts", "counted", "[I", true)
  | _ => ("GaveTheDayBefore$Gifts", "pairs", "[J", true)
def tyX0 : Nat → FieldType := fun k => match k with
  | 0 => .array .int
  | 1 => .array .int
  | _ => .array .long
abbrev wsX00 : List Cond := u_ws RX0 TX0 3
theorem nmX0 : ∀ a, a < 3 → ∀ b, b < 3 → a ≠ b → (TX0 a).2.1 ≠ (TX0 b).2.1 := by decide +kernel
theorem tyX0_ok : ∀ k, k < 3 → parseFieldDescriptor (TX0 k).2.2.1 = some (tyX0 k) := by decide +kernel
abbrev cX0_init : ByteArray := prog_2_method_1_code
def yX0_init : MethodName := ⟨RX0, "<init>", "()V"⟩
abbrev cX0_become : ByteArray := prog_2_method_2_code
def yX0_become : MethodName := ⟨RX0, "become", "(LGaveTheDayBefore$Gifts;)V"⟩
abbrev cX0_add : ByteArray := prog_2_method_3_code
def yX0_add : MethodName := ⟨RX0, "add", "(III)V"⟩
abbrev cX0_givenToday : ByteArray := prog_2_method_4_code
def yX0_givenToday : MethodName := ⟨RX0, "givenToday", "(I)I"⟩
abbrev cX0_gotToday : ByteArray := prog_2_method_5_code
def yX0_gotToday : MethodName := ⟨RX0, "gotToday", "(I)I"⟩
abbrev cX0_gotYesterday : ByteArray := prog_2_method_6_code
def yX0_gotYesterday : MethodName := ⟨RX0, "gotYesterday", "(I)I"⟩
abbrev cX0_got : ByteArray := prog_2_method_7_code
def yX0_got : MethodName := ⟨RX0, "got", "(II)I"⟩
abbrev cX0_countedYesterday : ByteArray := prog_2_method_8_code
def yX0_countedYesterday : MethodName := ⟨RX0, "countedYesterday", "(I)I"⟩
abbrev cX0_countedTogether : ByteArray := prog_2_method_9_code
def yX0_countedTogether : MethodName := ⟨RX0, "countedTogether", "(II)I"⟩
abbrev cX0_countedAtBest : ByteArray := prog_2_method_10_code
def yX0_countedAtBest : MethodName := ⟨RX0, "countedAtBest", "(II)I"⟩
abbrev cX0_countPastDays : ByteArray := prog_2_method_11_code
def yX0_countPastDays : MethodName := ⟨RX0, "countPastDays", "(I)V"⟩
abbrev cX0_countDay : ByteArray := prog_2_method_12_code
def yX0_countDay : MethodName := ⟨RX0, "countDay", "(II)V"⟩
abbrev cX0_countOf : ByteArray := prog_2_method_13_code
def yX0_countOf : MethodName := ⟨RX0, "countOf", "(IIJ)I"⟩
abbrev cX0_turnToNextDay : ByteArray := prog_2_method_14_code
def yX0_turnToNextDay : MethodName := ⟨RX0, "turnToNextDay", "()V"⟩
def RX1 : String := "GaveTheDayBefore$Letters"
def TX1 : u_T := fun k => match k with
  | 0 => ("GaveTheDayBefore$Letters", "letter", "[I", true)
  | 1 => ("GaveTheDayBefore$Letters", "size", "I", false)
  | _ => ("GaveTheDayBefore$Letters", "place", "I", false)
def tyX1 : Nat → FieldType := fun k => match k with
  | 0 => .array .int
  | 1 => .int
  | _ => .int
abbrev wsX10 : List Cond := u_ws RX1 TX1 3
theorem nmX1 : ∀ a, a < 3 → ∀ b, b < 3 → a ≠ b → (TX1 a).2.1 ≠ (TX1 b).2.1 := by decide +kernel
theorem tyX1_ok : ∀ k, k < 3 → parseFieldDescriptor (TX1 k).2.2.1 = some (tyX1 k) := by decide +kernel
abbrev cX1_init : ByteArray := prog_3_method_1_code
def yX1_init : MethodName := ⟨RX1, "<init>", "()V"⟩
abbrev cX1_isFull : ByteArray := prog_3_method_2_code
def yX1_isFull : MethodName := ⟨RX1, "isFull", "()Z"⟩
abbrev cX1_add : ByteArray := prog_3_method_3_code
def yX1_add : MethodName := ⟨RX1, "add", "(I)I"⟩
abbrev cX1_forget : ByteArray := prog_3_method_4_code
def yX1_forget : MethodName := ⟨RX1, "forget", "()V"⟩
abbrev cX1_isAt : ByteArray := prog_3_method_5_code
def yX1_isAt : MethodName := ⟨RX1, "isAt", "(II)Z"⟩
abbrev cX1_isDigitAt : ByteArray := prog_3_method_6_code
def yX1_isDigitAt : MethodName := ⟨RX1, "isDigitAt", "(I)Z"⟩
abbrev cX1_digit : ByteArray := prog_3_method_7_code
def yX1_digit : MethodName := ⟨RX1, "digit", "(I)I"⟩
abbrev cX1_number : ByteArray := prog_3_method_8_code
def yX1_number : MethodName := ⟨RX1, "number", "(I)I"⟩
abbrev cX1_next : ByteArray := prog_3_method_9_code
def yX1_next : MethodName := ⟨RX1, "next", "(II)I"⟩
abbrev cX1_firstUnfit : ByteArray := prog_3_method_10_code
def yX1_firstUnfit : MethodName := ⟨RX1, "firstUnfit", "()I"⟩
abbrev cX1_passesStatement : ByteArray := prog_3_method_11_code
def yX1_passesStatement : MethodName := ⟨RX1, "passesStatement", "()Z"⟩
abbrev cX1_passes : ByteArray := prog_3_method_12_code
def yX1_passes : MethodName := ⟨RX1, "passes", "(I)Z"⟩
abbrev cX1_passesDigits : ByteArray := prog_3_method_13_code
def yX1_passesDigits : MethodName := ⟨RX1, "passesDigits", "(II)Z"⟩
def RX2 : String := "GaveTheDayBefore$Search"
def TX2 : u_T := fun k => match k with
  | 0 => ("GaveTheDayBefore$Search", "level", "[LGaveTheDayBefore$Village;", true)
  | 1 => ("GaveTheDayBefore$Search", "chosen", "[I", true)
  | 2 => ("GaveTheDayBefore$Search", "bestRow", "[I", true)
  | 3 => ("GaveTheDayBefore$Search", "one", "I", false)
  | 4 => ("GaveTheDayBefore$Search", "days", "I", false)
  | 5 => ("GaveTheDayBefore$Search", "much", "I", false)
  | 6 => ("GaveTheDayBefore$Search", "best", "I", false)
  | _ => ("GaveTheDayBefore$Search", "leastGiven", "I", false)
def tyX2 : Nat → FieldType := fun k => match k with
  | 0 => .array (.object "GaveTheDayBefore$Village")
  | 1 => .array .int
  | 2 => .array .int
  | 3 => .int
  | 4 => .int
  | 5 => .int
  | 6 => .int
  | _ => .int
abbrev wsX20 : List Cond := u_ws RX2 TX2 8
theorem nmX2 : ∀ a, a < 8 → ∀ b, b < 8 → a ≠ b → (TX2 a).2.1 ≠ (TX2 b).2.1 := by decide +kernel
theorem tyX2_ok : ∀ k, k < 8 → parseFieldDescriptor (TX2 k).2.2.1 = some (tyX2 k) := by decide +kernel
abbrev cX2_init : ByteArray := prog_4_method_1_code
def yX2_init : MethodName := ⟨RX2, "<init>", "()V"⟩
abbrev cX2_run : ByteArray := prog_4_method_2_code
def yX2_run : MethodName := ⟨RX2, "run", "(LGaveTheDayBefore$Village;III)V"⟩
abbrev cX2_explore : ByteArray := prog_4_method_3_code
def yX2_explore : MethodName := ⟨RX2, "explore", "(LGaveTheDayBefore$Search;II)V"⟩
abbrev cX2_look : ByteArray := prog_4_method_4_code
def yX2_look : MethodName := ⟨RX2, "look", "(I)V"⟩
def RX3 : String := "GaveTheDayBefore$Village"
def TX3 : u_T := fun k => match k with
  | 0 => ("GaveTheDayBefore$Village", "kind", "[I", true)
  | 1 => ("GaveTheDayBefore$Village", "figure", "[I", true)
  | 2 => ("GaveTheDayBefore$Village", "to", "[I", true)
  | 3 => ("GaveTheDayBefore$Village", "has", "[I", true)
  | 4 => ("GaveTheDayBefore$Village", "finds", "[I", true)
  | 5 => ("GaveTheDayBefore$Village", "setting", "[I", true)
  | 6 => ("GaveTheDayBefore$Village", "gifts", "LGaveTheDayBefore$Gifts;", true)
  | 7 => ("GaveTheDayBefore$Village", "people", "I", false)
  | _ => ("GaveTheDayBefore$Village", "today", "I", false)
def tyX3 : Nat → FieldType := fun k => match k with
  | 0 => .array .int
  | 1 => .array .int
  | 2 => .array .int
  | 3 => .array .int
  | 4 => .array .int
  | 5 => .array .int
  | 6 => .object "GaveTheDayBefore$Gifts"
  | 7 => .int
  | _ => .int
abbrev wsX30 : List Cond := u_ws RX3 TX3 9
theorem nmX3 : ∀ a, a < 9 → ∀ b, b < 9 → a ≠ b → (TX3 a).2.1 ≠ (TX3 b).2.1 := by decide +kernel
theorem tyX3_ok : ∀ k, k < 9 → parseFieldDescriptor (TX3 k).2.2.1 = some (tyX3 k) := by decide +kernel
abbrev cX3_init : ByteArray := prog_5_method_1_code
def yX3_init : MethodName := ⟨RX3, "<init>", "()V"⟩
abbrev cX3_become : ByteArray := prog_5_method_2_code
def yX3_become : MethodName := ⟨RX3, "become", "(LGaveTheDayBefore$Village;)V"⟩
abbrev cX3_exists : ByteArray := prog_5_method_3_code
def yX3_exists : MethodName := ⟨RX3, "exists", "(I)Z"⟩
abbrev cX3_welcome : ByteArray := prog_5_method_4_code
def yX3_welcome : MethodName := ⟨RX3, "welcome", "(IIIII)Z"⟩
abbrev cX3_takeLaw : ByteArray := prog_5_method_5_code
def yX3_takeLaw : MethodName := ⟨RX3, "takeLaw", "(III)Z"⟩
abbrev cX3_changeSetting : ByteArray := prog_5_method_6_code
def yX3_changeSetting : MethodName := ⟨RX3, "changeSetting", "(II)I"⟩
abbrev cX3_sumOfHas : ByteArray := prog_5_method_7_code
def yX3_sumOfHas : MethodName := ⟨RX3, "sumOfHas", "()I"⟩
abbrev cX3_sumOfLying : ByteArray := prog_5_method_8_code
def yX3_sumOfLying : MethodName := ⟨RX3, "sumOfLying", "()I"⟩
abbrev cX3_sumOfGiven : ByteArray := prog_5_method_9_code
def yX3_sumOfGiven : MethodName := ⟨RX3, "sumOfGiven", "()I"⟩
abbrev cX3_richestAbove : ByteArray := prog_5_method_10_code
def yX3_richestAbove : MethodName := ⟨RX3, "richestAbove", "(I)I"⟩
abbrev cX3_leave : ByteArray := prog_5_method_11_code
def yX3_leave : MethodName := ⟨RX3, "leave", "(I)I"⟩
abbrev cX3_bounded : ByteArray := prog_5_method_12_code
def yX3_bounded : MethodName := ⟨RX3, "bounded", "(I)I"⟩
abbrev cX3_amountByKind : ByteArray := prog_5_method_13_code
def yX3_amountByKind : MethodName := ⟨RX3, "amountByKind", "(I)I"⟩
abbrev cX3_whatGrew : ByteArray := prog_5_method_14_code
def yX3_whatGrew : MethodName := ⟨RX3, "whatGrew", "(I)I"⟩
abbrev cX3_divides : ByteArray := prog_5_method_15_code
def yX3_divides : MethodName := ⟨RX3, "divides", "(II)Z"⟩
abbrev cX3_takerByKind : ByteArray := prog_5_method_16_code
def yX3_takerByKind : MethodName := ⟨RX3, "takerByKind", "(I)I"⟩
abbrev cX3_giftByKind : ByteArray := prog_5_method_17_code
def yX3_giftByKind : MethodName := ⟨RX3, "giftByKind", "(I)I"⟩
abbrev cX3_nextOne : ByteArray := prog_5_method_18_code
def yX3_nextOne : MethodName := ⟨RX3, "nextOne", "(I)I"⟩
abbrev cX3_giftRefusal : ByteArray := prog_5_method_19_code
def yX3_giftRefusal : MethodName := ⟨RX3, "giftRefusal", "(III)I"⟩
abbrev cX3_hand : ByteArray := prog_5_method_20_code
def yX3_hand : MethodName := ⟨RX3, "hand", "(III)V"⟩
abbrev cX3_handIfAny : ByteArray := prog_5_method_21_code
def yX3_handIfAny : MethodName := ⟨RX3, "handIfAny", "(III)V"⟩
abbrev cX3_passDays : ByteArray := prog_5_method_22_code
def yX3_passDays : MethodName := ⟨RX3, "passDays", "(I)V"⟩
abbrev cX3_passDay : ByteArray := prog_5_method_23_code
def yX3_passDay : MethodName := ⟨RX3, "passDay", "()I"⟩
abbrev cX3_passDayOfOne : ByteArray := prog_5_method_24_code
def yX3_passDayOfOne : MethodName := ⟨RX3, "passDayOfOne", "(II)V"⟩
abbrev cX3_endDay : ByteArray := prog_5_method_25_code
def yX3_endDay : MethodName := ⟨RX3, "endDay", "()I"⟩
abbrev cX3_whoCannotBegin : ByteArray := prog_5_method_26_code
def yX3_whoCannotBegin : MethodName := ⟨RX3, "whoCannotBegin", "()I"⟩
abbrev cX3_isSomebodysTaker : ByteArray := prog_5_method_27_code
def yX3_isSomebodysTaker : MethodName := ⟨RX3, "isSomebodysTaker", "(I)Z"⟩
abbrev cX3_find : ByteArray := prog_5_method_28_code
def yX3_find : MethodName := ⟨RX3, "find", "(II)V"⟩
def RX4 : String := "GaveTheDayBefore"
def TX4 : u_T := fun k => match k with
  | 0 => ("GaveTheDayBefore", "now", "LGaveTheDayBefore$Village;", true)
  | 1 => ("GaveTheDayBefore", "saved", "LGaveTheDayBefore$Village;", true)
  | 2 => ("GaveTheDayBefore", "mind", "LGaveTheDayBefore$Village;", true)
  | 3 => ("GaveTheDayBefore", "search", "LGaveTheDayBefore$Search;", true)
  | 4 => ("GaveTheDayBefore", "letters", "LGaveTheDayBefore$Letters;", true)
  | 5 => ("GaveTheDayBefore", "morning", "[I", true)
  | 6 => ("GaveTheDayBefore", "numbers", "[I", true)
  | 7 => ("GaveTheDayBefore", "refusals", "[I", true)
  | 8 => ("GaveTheDayBefore", "numbersSize", "I", false)
  | _ => ("GaveTheDayBefore", "imageTaken", "Z", false)
def tyX4 : Nat → FieldType := fun k => match k with
  | 0 => .object "GaveTheDayBefore$Village"
  | 1 => .object "GaveTheDayBefore$Village"
  | 2 => .object "GaveTheDayBefore$Village"
  | 3 => .object "GaveTheDayBefore$Search"
  | 4 => .object "GaveTheDayBefore$Letters"
  | 5 => .array .int
  | 6 => .array .int
  | 7 => .array .int
  | 8 => .int
  | _ => .boolean
abbrev wsX40 : List Cond := u_ws RX4 TX4 10
theorem nmX4 : ∀ a, a < 10 → ∀ b, b < 10 → a ≠ b → (TX4 a).2.1 ≠ (TX4 b).2.1 := by decide +kernel
theorem tyX4_ok : ∀ k, k < 10 → parseFieldDescriptor (TX4 k).2.2.1 = some (tyX4 k) := by decide +kernel
abbrev cX4_init : ByteArray := prog_1_method_1_code
def yX4_init : MethodName := ⟨RX4, "<init>", "()V"⟩
abbrev cX4_feed : ByteArray := prog_1_method_2_code
def yX4_feed : MethodName := ⟨RX4, "feed", "(I)I"⟩
abbrev cX4_land : ByteArray := prog_1_method_3_code
def yX4_land : MethodName := ⟨RX4, "land", "()I"⟩
abbrev cX4_person : ByteArray := prog_1_method_4_code
def yX4_person : MethodName := ⟨RX4, "person", "(II)I"⟩
abbrev cX4_put : ByteArray := prog_1_method_5_code
def yX4_put : MethodName := ⟨RX4, "put", "(III)I"⟩
abbrev cX4_set : ByteArray := prog_1_method_6_code
def yX4_set : MethodName := ⟨RX4, "set", "(II)I"⟩
abbrev cX4_give : ByteArray := prog_1_method_7_code
def yX4_give : MethodName := ⟨RX4, "give", "(III)I"⟩
abbrev cX4_evening : ByteArray := prog_1_method_8_code
def yX4_evening : MethodName := ⟨RX4, "evening", "()I"⟩
abbrev cX4_day : ByteArray := prog_1_method_9_code
def yX4_day : MethodName := ⟨RX4, "day", "()I"⟩
abbrev cX4_gives : ByteArray := prog_1_method_10_code
def yX4_gives : MethodName := ⟨RX4, "gives", "(I)I"⟩
abbrev cX4_after : ByteArray := prog_1_method_11_code
def yX4_after : MethodName := ⟨RX4, "after", "(II)I"⟩
abbrev cX4_all : ByteArray := prog_1_method_12_code
def yX4_all : MethodName := ⟨RX4, "all", "(I)I"⟩
abbrev cX4_enough : ByteArray := prog_1_method_13_code
def yX4_enough : MethodName := ⟨RX4, "enough", "(II)I"⟩
abbrev cX4_richest : ByteArray := prog_1_method_14_code
def yX4_richest : MethodName := ⟨RX4, "richest", "(I)I"⟩
abbrev cX4_lost : ByteArray := prog_1_method_15_code
def yX4_lost : MethodName := ⟨RX4, "lost", "(I)I"⟩
abbrev cX4_grows : ByteArray := prog_1_method_16_code
def yX4_grows : MethodName := ⟨RX4, "grows", "(I)I"⟩
abbrev cX4_rest : ByteArray := prog_1_method_17_code
def yX4_rest : MethodName := ⟨RX4, "rest", "()I"⟩
abbrev cX4_most : ByteArray := prog_1_method_18_code
def yX4_most : MethodName := ⟨RX4, "most", "(II)I"⟩
abbrev cX4_choice : ByteArray := prog_1_method_19_code
def yX4_choice : MethodName := ⟨RX4, "choice", "(III)I"⟩
abbrev cX4_gap : ByteArray := prog_1_method_20_code
def yX4_gap : MethodName := ⟨RX4, "gap", "(II)I"⟩
abbrev cX4_feast : ByteArray := prog_1_method_21_code
def yX4_feast : MethodName := ⟨RX4, "feast", "(III)I"⟩
abbrev cX4_begins : ByteArray := prog_1_method_22_code
def yX4_begins : MethodName := ⟨RX4, "begins", "()I"⟩
abbrev cX4_helps : ByteArray := prog_1_method_23_code
def yX4_helps : MethodName := ⟨RX4, "helps", "()I"⟩
abbrev cX4_byLaw : ByteArray := prog_1_method_24_code
def yX4_byLaw : MethodName := ⟨RX4, "byLaw", "(III)I"⟩
abbrev cX4_byBack : ByteArray := prog_1_method_25_code
def yX4_byBack : MethodName := ⟨RX4, "byBack", "(III)I"⟩
abbrev cX4_leastLaw : ByteArray := prog_1_method_26_code
def yX4_leastLaw : MethodName := ⟨RX4, "leastLaw", "(II)I"⟩
abbrev cX4_row : ByteArray := prog_1_method_27_code
def yX4_row : MethodName := ⟨RX4, "row", "(I)I"⟩
abbrev cX4_found : ByteArray := prog_1_method_28_code
def yX4_found : MethodName := ⟨RX4, "found", "(I)I"⟩
abbrev cX4_judge : ByteArray := prog_1_method_29_code
def yX4_judge : MethodName := ⟨RX4, "judge", "(I)I"⟩
abbrev cX4_told : ByteArray := prog_1_method_30_code
def yX4_told : MethodName := ⟨RX4, "told", "()I"⟩
abbrev cX4_seeds : ByteArray := prog_1_method_31_code
def yX4_seeds : MethodName := ⟨RX4, "seeds", "(II)I"⟩
abbrev cX4_image : ByteArray := prog_1_method_32_code
def yX4_image : MethodName := ⟨RX4, "image", "()I"⟩
abbrev cX4_restore : ByteArray := prog_1_method_33_code
def yX4_restore : MethodName := ⟨RX4, "restore", "()I"⟩
abbrev cX4_count : ByteArray := prog_1_method_34_code
def yX4_count : MethodName := ⟨RX4, "count", "(I)I"⟩
abbrev cX4_refuse : ByteArray := prog_1_method_35_code
def yX4_refuse : MethodName := ⟨RX4, "refuse", "(I)I"⟩
abbrev cX4_outside : ByteArray := prog_1_method_36_code
def yX4_outside : MethodName := ⟨RX4, "outside", "(III)I"⟩
abbrev cX4_ofOneRefusal : ByteArray := prog_1_method_37_code
def yX4_ofOneRefusal : MethodName := ⟨RX4, "ofOneRefusal", "(IIII)I"⟩
abbrev cX4_ofOneTwiceRefusal : ByteArray := prog_1_method_38_code
def yX4_ofOneTwiceRefusal : MethodName := ⟨RX4, "ofOneTwiceRefusal", "(III)I"⟩
abbrev cX4_putRefusal : ByteArray := prog_1_method_39_code
def yX4_putRefusal : MethodName := ⟨RX4, "putRefusal", "(III)I"⟩
abbrev cX4_think : ByteArray := prog_1_method_40_code
def yX4_think : MethodName := ⟨RX4, "think", "(I)V"⟩
abbrev cX4_quietDayInMind : ByteArray := prog_1_method_41_code
def yX4_quietDayInMind : MethodName := ⟨RX4, "quietDayInMind", "()Z"⟩
abbrev cX4_hasByLaw : ByteArray := prog_1_method_42_code
def yX4_hasByLaw : MethodName := ⟨RX4, "hasByLaw", "(III)I"⟩
abbrev cX4_readLand : ByteArray := prog_1_method_43_code
def yX4_readLand : MethodName := ⟨RX4, "readLand", "()I"⟩
abbrev cX4_comesInMind : ByteArray := prog_1_method_44_code
def yX4_comesInMind : MethodName := ⟨RX4, "comesInMind", "(I)Z"⟩
abbrev cX4_lookAtBook : ByteArray := prog_1_method_45_code
def yX4_lookAtBook : MethodName := ⟨RX4, "lookAtBook", "(IZ)I"⟩
abbrev cX4_firstImpossibleGift : ByteArray := prog_1_method_46_code
def yX4_firstImpossibleGift : MethodName := ⟨RX4, "firstImpossibleGift", "()I"⟩
abbrev cX4_nextSeed : ByteArray := prog_1_method_47_code
def yX4_nextSeed : MethodName := ⟨RX4, "nextSeed", "(I)I"⟩
abbrev cX4_draw : ByteArray := prog_1_method_48_code
def yX4_draw : MethodName := ⟨RX4, "draw", "(II)I"⟩
def RX5 : String := "GaveTheDayBeforeModel"
def TX5 : u_T := fun k => match k with
  | 0 => ("GaveTheDayBeforeModel", "people", "I", false)
  | 1 => ("GaveTheDayBeforeModel", "day", "I", false)
  | 2 => ("GaveTheDayBeforeModel", "law", "I", false)
  | 3 => ("GaveTheDayBeforeModel", "span", "I", false)
  | 4 => ("GaveTheDayBeforeModel", "back", "I", false)
  | 5 => ("GaveTheDayBeforeModel", "free", "I", false)
  | 6 => ("GaveTheDayBeforeModel", "kinds", "[I", true)
  | 7 => ("GaveTheDayBeforeModel", "figures", "[I", true)
  | 8 => ("GaveTheDayBeforeModel", "finds", "[I", true)
  | 9 => ("GaveTheDayBeforeModel", "tos", "[I", true)
  | 10 => ("GaveTheDayBeforeModel", "has", "[I", true)
  | 11 => ("GaveTheDayBeforeModel", "gifts", "[I", true)
  | 12 => ("GaveTheDayBeforeModel", "lost", "I", false)
  | 13 => ("GaveTheDayBeforeModel", "thrown", "I", false)
  | 14 => ("GaveTheDayBeforeModel", "refusals", "[I", true)
  | 15 => ("GaveTheDayBeforeModel", "carried", "[I", true)
  | 16 => ("GaveTheDayBeforeModel", "kept", "[I", true)
  | 17 => ("GaveTheDayBeforeModel", "place", "I", false)
  | 18 => ("GaveTheDayBeforeModel", "isTaking", "Z", false)
  | 19 => ("GaveTheDayBeforeModel", "keptIn", "[I", false)
  | 20 => ("GaveTheDayBeforeModel", "letters", "[I", true)
  | 21 => ("GaveTheDayBeforeModel", "letterMany", "I", false)
  | 22 => ("GaveTheDayBeforeModel", "at", "I", false)
  | 23 => ("GaveTheDayBeforeModel", "isBad", "Z", false)
  | 24 => ("GaveTheDayBeforeModel", "statements", "I", false)
  | 25 => ("GaveTheDayBeforeModel", "placeOf", "[I", true)
  | 26 => ("GaveTheDayBeforeModel", "letterOf", "[I", true)
  | 27 => ("GaveTheDayBeforeModel", "numbers", "[I", true)
  | 28 => ("GaveTheDayBeforeModel", "comingPeople", "I", false)
  | 29 => ("GaveTheDayBeforeModel", "hadThen", "[I", true)
  | 30 => ("GaveTheDayBeforeModel", "chosenSum", "I", false)
  | 31 => ("GaveTheDayBeforeModel", "bestRow", "I", false)
  | 32 => ("GaveTheDayBeforeModel", "mostHad", "I", false)
  | 33 => ("GaveTheDayBeforeModel", "row", "[I", true)
  | 34 => ("GaveTheDayBeforeModel", "rowMany", "I", false)
  | 35 => ("GaveTheDayBeforeModel", "seed", "I", false)
  | 36 => ("GaveTheDayBeforeModel", "hasImage", "Z", false)
  | 37 => ("GaveTheDayBeforeModel", "imaged", "[I", true)
  | _ => ("GaveTheDayBeforeModel", "imagedMore", "[I", true)
def tyX5 : Nat → FieldType := fun k => match k with
  | 0 => .int
  | 1 => .int
  | 2 => .int
  | 3 => .int
  | 4 => .int
  | 5 => .int
  | 6 => .array .int
  | 7 => .array .int
  | 8 => .array .int
  | 9 => .array .int
  | 10 => .array .int
  | 11 => .array .int
  | 12 => .int
  | 13 => .int
  | 14 => .array .int
  | 15 => .array .int
  | 16 => .array .int
  | 17 => .int
  | 18 => .boolean
  | 19 => .array .int
  | 20 => .array .int
  | 21 => .int
  | 22 => .int
  | 23 => .boolean
  | 24 => .int
  | 25 => .array .int
  | 26 => .array .int
  | 27 => .array .int
  | 28 => .int
  | 29 => .array .int
  | 30 => .int
  | 31 => .int
  | 32 => .int
  | 33 => .array .int
  | 34 => .int
  | 35 => .int
  | 36 => .boolean
  | 37 => .array .int
  | _ => .array .int
abbrev wsX50 : List Cond := u_ws RX5 TX5 39
theorem nmX5 : ∀ a, a < 39 → ∀ b, b < 39 → a ≠ b → (TX5 a).2.1 ≠ (TX5 b).2.1 := by decide +kernel
theorem tyX5_ok : ∀ k, k < 39 → parseFieldDescriptor (TX5 k).2.2.1 = some (tyX5 k) := by decide +kernel
abbrev cX5_init : ByteArray := prog_7_method_1_code
def yX5_init : MethodName := ⟨RX5, "<init>", "()V"⟩
abbrev cX5_in : ByteArray := prog_7_method_3_code
def yX5_in : MethodName := ⟨RX5, "in", "(JJJ)Z"⟩
abbrev cX5_refuse : ByteArray := prog_7_method_4_code
def yX5_refuse : MethodName := ⟨RX5, "refuse", "(I)I"⟩
abbrev cX5_isOne : ByteArray := prog_7_method_5_code
def yX5_isOne : MethodName := ⟨RX5, "isOne", "(I)Z"⟩
abbrev cX5_lesser : ByteArray := prog_7_method_6_code
def yX5_lesser : MethodName := ⟨RX5, "lesser", "(II)I"⟩
abbrev cX5_gift : ByteArray := prog_7_method_7_code
def yX5_gift : MethodName := ⟨RX5, "gift", "(III)I"⟩
abbrev cX5_addGift : ByteArray := prog_7_method_8_code
def yX5_addGift : MethodName := ⟨RX5, "addGift", "(III)V"⟩
abbrev cX5_given : ByteArray := prog_7_method_9_code
def yX5_given : MethodName := ⟨RX5, "given", "(II)I"⟩
abbrev cX5_got : ByteArray := prog_7_method_10_code
def yX5_got : MethodName := ⟨RX5, "got", "(II)I"⟩
abbrev cX5_cameBack : ByteArray := prog_7_method_11_code
def yX5_cameBack : MethodName := ⟨RX5, "cameBack", "(III)Z"⟩
abbrev cX5_counted : ByteArray := prog_7_method_12_code
def yX5_counted : MethodName := ⟨RX5, "counted", "(II)I"⟩
abbrev cX5_leave : ByteArray := prog_7_method_13_code
def yX5_leave : MethodName := ⟨RX5, "leave", "(I)I"⟩
abbrev cX5_target : ByteArray := prog_7_method_14_code
def yX5_target : MethodName := ⟨RX5, "target", "(I)I"⟩
abbrev cX5_grown : ByteArray := prog_7_method_15_code
def yX5_grown : MethodName := ⟨RX5, "grown", "(I)I"⟩
abbrev cX5_byKind : ByteArray := prog_7_method_16_code
def yX5_byKind : MethodName := ⟨RX5, "byKind", "(I)I"⟩
abbrev cX5_giveByKind : ByteArray := prog_7_method_17_code
def yX5_giveByKind : MethodName := ⟨RX5, "giveByKind", "(I)V"⟩
abbrev cX5_endDay : ByteArray := prog_7_method_18_code
def yX5_endDay : MethodName := ⟨RX5, "endDay", "()V"⟩
abbrev cX5_dayOn : ByteArray := prog_7_method_19_code
def yX5_dayOn : MethodName := ⟨RX5, "dayOn", "()V"⟩
abbrev cX5_carry : ByteArray := prog_7_method_20_code
def yX5_carry : MethodName := ⟨RX5, "carry", "(I)I"⟩
abbrev cX5_carryDays : ByteArray := prog_7_method_21_code
def yX5_carryDays : MethodName := ⟨RX5, "carryDays", "([IZ)V"⟩
abbrev cX5_open : ByteArray := prog_7_method_22_code
def yX5_open : MethodName := ⟨RX5, "open", "()V"⟩
abbrev cX5_close : ByteArray := prog_7_method_23_code
def yX5_close : MethodName := ⟨RX5, "close", "()V"⟩
abbrev cX5_run : ByteArray := prog_7_method_24_code
def yX5_run : MethodName := ⟨RX5, "run", "(I)V"⟩
abbrev cX5_all : ByteArray := prog_7_method_25_code
def yX5_all : MethodName := ⟨RX5, "all", "()I"⟩
abbrev cX5_feed : ByteArray := prog_7_method_26_code
def yX5_feed : MethodName := ⟨RX5, "feed", "(I)I"⟩
abbrev cX5_here : ByteArray := prog_7_method_27_code
def yX5_here : MethodName := ⟨RX5, "here", "()I"⟩
abbrev cX5_readDigit : ByteArray := prog_7_method_28_code
def yX5_readDigit : MethodName := ⟨RX5, "readDigit", "()I"⟩
abbrev cX5_readNumber : ByteArray := prog_7_method_29_code
def yX5_readNumber : MethodName := ⟨RX5, "readNumber", "(I)I"⟩
abbrev cX5_take : ByteArray := prog_7_method_30_code
def yX5_take : MethodName := ⟨RX5, "take", "(I)V"⟩
abbrev cX5_readStatement : ByteArray := prog_7_method_31_code
def yX5_readStatement : MethodName := ⟨RX5, "readStatement", "()V"⟩
abbrev cX5_isGood : ByteArray := prog_7_method_32_code
def yX5_isGood : MethodName := ⟨RX5, "isGood", "(I)Z"⟩
abbrev cX5_comes : ByteArray := prog_7_method_33_code
def yX5_comes : MethodName := ⟨RX5, "comes", "(I)V"⟩
abbrev cX5_land : ByteArray := prog_7_method_34_code
def yX5_land : MethodName := ⟨RX5, "land", "()I"⟩
abbrev cX5_person : ByteArray := prog_7_method_35_code
def yX5_person : MethodName := ⟨RX5, "person", "(II)I"⟩
abbrev cX5_put : ByteArray := prog_7_method_36_code
def yX5_put : MethodName := ⟨RX5, "put", "(III)I"⟩
abbrev cX5_set : ByteArray := prog_7_method_37_code
def yX5_set : MethodName := ⟨RX5, "set", "(II)I"⟩
abbrev cX5_wrongGift : ByteArray := prog_7_method_38_code
def yX5_wrongGift : MethodName := ⟨RX5, "wrongGift", "(III)I"⟩
abbrev cX5_give : ByteArray := prog_7_method_39_code
def yX5_give : MethodName := ⟨RX5, "give", "(III)I"⟩
abbrev cX5_evening : ByteArray := prog_7_method_40_code
def yX5_evening : MethodName := ⟨RX5, "evening", "()I"⟩
abbrev cX5_day : ByteArray := prog_7_method_41_code
def yX5_day : MethodName := ⟨RX5, "day", "()I"⟩
abbrev cX5_gives : ByteArray := prog_7_method_42_code
def yX5_gives : MethodName := ⟨RX5, "gives", "(I)I"⟩
abbrev cX5_wrongDays : ByteArray := prog_7_method_43_code
def yX5_wrongDays : MethodName := ⟨RX5, "wrongDays", "(III)I"⟩
abbrev cX5_wrongOne : ByteArray := prog_7_method_44_code
def yX5_wrongOne : MethodName := ⟨RX5, "wrongOne", "(IIII)I"⟩
abbrev cX5_hasAfter : ByteArray := prog_7_method_45_code
def yX5_hasAfter : MethodName := ⟨RX5, "hasAfter", "(II)I"⟩
abbrev cX5_after : ByteArray := prog_7_method_46_code
def yX5_after : MethodName := ⟨RX5, "after", "(II)I"⟩
abbrev cX5_allAfter : ByteArray := prog_7_method_47_code
def yX5_allAfter : MethodName := ⟨RX5, "allAfter", "(I)I"⟩
abbrev cX5_all_ : ByteArray := prog_7_method_48_code
def yX5_all_ : MethodName := ⟨RX5, "all", "(I)I"⟩
abbrev cX5_enough : ByteArray := prog_7_method_49_code
def yX5_enough : MethodName := ⟨RX5, "enough", "(II)I"⟩
abbrev cX5_richestNow : ByteArray := prog_7_method_50_code
def yX5_richestNow : MethodName := ⟨RX5, "richestNow", "()I"⟩
abbrev cX5_richest : ByteArray := prog_7_method_51_code
def yX5_richest : MethodName := ⟨RX5, "richest", "(I)I"⟩
abbrev cX5_lost : ByteArray := prog_7_method_52_code
def yX5_lost : MethodName := ⟨RX5, "lost", "(I)I"⟩
abbrev cX5_grows : ByteArray := prog_7_method_53_code
def yX5_grows : MethodName := ⟨RX5, "grows", "(I)I"⟩
abbrev cX5_rest : ByteArray := prog_7_method_54_code
def yX5_rest : MethodName := ⟨RX5, "rest", "()I"⟩
abbrev cX5_isAsThen : ByteArray := prog_7_method_55_code
def yX5_isAsThen : MethodName := ⟨RX5, "isAsThen", "()Z"⟩
abbrev cX5_choose : ByteArray := prog_7_method_56_code
def yX5_choose : MethodName := ⟨RX5, "choose", "(II)V"⟩
abbrev cX5_power : ByteArray := prog_7_method_57_code
def yX5_power : MethodName := ⟨RX5, "power", "(I)I"⟩
abbrev cX5_byRow : ByteArray := prog_7_method_58_code
def yX5_byRow : MethodName := ⟨RX5, "byRow", "(III)I"⟩
abbrev cX5_findMost : ByteArray := prog_7_method_59_code
def yX5_findMost : MethodName := ⟨RX5, "findMost", "(II)V"⟩
abbrev cX5_most : ByteArray := prog_7_method_60_code
def yX5_most : MethodName := ⟨RX5, "most", "(II)I"⟩
abbrev cX5_choice : ByteArray := prog_7_method_61_code
def yX5_choice : MethodName := ⟨RX5, "choice", "(III)I"⟩
abbrev cX5_gap : ByteArray := prog_7_method_62_code
def yX5_gap : MethodName := ⟨RX5, "gap", "(II)I"⟩
abbrev cX5_feast : ByteArray := prog_7_method_63_code
def yX5_feast : MethodName := ⟨RX5, "feast", "(III)I"⟩
abbrev cX5_isAimedAt : ByteArray := prog_7_method_64_code
def yX5_isAimedAt : MethodName := ⟨RX5, "isAimedAt", "(I)Z"⟩
abbrev cX5_stuck : ByteArray := prog_7_method_65_code
def yX5_stuck : MethodName := ⟨RX5, "stuck", "()I"⟩
abbrev cX5_begins : ByteArray := prog_7_method_66_code
def yX5_begins : MethodName := ⟨RX5, "begins", "()I"⟩
abbrev cX5_helps : ByteArray := prog_7_method_67_code
def yX5_helps : MethodName := ⟨RX5, "helps", "()I"⟩
abbrev cX5_hasBy : ByteArray := prog_7_method_68_code
def yX5_hasBy : MethodName := ⟨RX5, "hasBy", "(IIII)I"⟩
abbrev cX5_byLaw : ByteArray := prog_7_method_69_code
def yX5_byLaw : MethodName := ⟨RX5, "byLaw", "(III)I"⟩
abbrev cX5_byBack : ByteArray := prog_7_method_70_code
def yX5_byBack : MethodName := ⟨RX5, "byBack", "(III)I"⟩
abbrev cX5_leastLaw : ByteArray := prog_7_method_71_code
def yX5_leastLaw : MethodName := ⟨RX5, "leastLaw", "(II)I"⟩
abbrev cX5_row : ByteArray := prog_7_method_72_code
def yX5_row : MethodName := ⟨RX5, "row", "(I)I"⟩
abbrev cX5_bookOf : ByteArray := prog_7_method_73_code
def yX5_bookOf : MethodName := ⟨RX5, "bookOf", "(IZ)I"⟩
abbrev cX5_found : ByteArray := prog_7_method_74_code
def yX5_found : MethodName := ⟨RX5, "found", "(I)I"⟩
abbrev cX5_judge : ByteArray := prog_7_method_75_code
def yX5_judge : MethodName := ⟨RX5, "judge", "(I)I"⟩
abbrev cX5_told : ByteArray := prog_7_method_76_code
def yX5_told : MethodName := ⟨RX5, "told", "()I"⟩
abbrev cX5_draw : ByteArray := prog_7_method_77_code
def yX5_draw : MethodName := ⟨RX5, "draw", "(I)I"⟩
abbrev cX5_seeds : ByteArray := prog_7_method_78_code
def yX5_seeds : MethodName := ⟨RX5, "seeds", "(II)I"⟩
abbrev cX5_carryMore : ByteArray := prog_7_method_79_code
def yX5_carryMore : MethodName := ⟨RX5, "carryMore", "(II)I"⟩
abbrev cX5_carryAll : ByteArray := prog_7_method_80_code
def yX5_carryAll : MethodName := ⟨RX5, "carryAll", "(Z)V"⟩
abbrev cX5_image : ByteArray := prog_7_method_81_code
def yX5_image : MethodName := ⟨RX5, "image", "()I"⟩
abbrev cX5_restore : ByteArray := prog_7_method_82_code
def yX5_restore : MethodName := ⟨RX5, "restore", "()I"⟩
abbrev cX5_sum : ByteArray := prog_7_method_83_code
def yX5_sum : MethodName := ⟨RX5, "sum", "(Z)I"⟩
abbrev cX5_count : ByteArray := prog_7_method_84_code
def yX5_count : MethodName := ⟨RX5, "count", "(I)I"⟩
def RJ6 : String := "java/lang/Integer"
def TJ6 : u_T := fun k => match k with
  | _ => ("", "", "", false)
def tyJ6 : Nat → FieldType := fun k => match k with
  | _ => .int
abbrev wsJ60 : List Cond := u_ws RJ6 TJ6 0
theorem nmJ6 : ∀ a, a < 0 → ∀ b, b < 0 → a ≠ b → (TJ6 a).2.1 ≠ (TJ6 b).2.1 := by decide +kernel
theorem tyJ6_ok : ∀ k, k < 0 → parseFieldDescriptor (TJ6 k).2.2.1 = some (tyJ6 k) := by decide +kernel
abbrev cJ6_bitCount_0f7a4 : ByteArray := prog_8_method_49_code
def yJ6_bitCount_0f7a4 : MethodName := ⟨RJ6, "bitCount", "(I)I"⟩
def RJ9 : String := "java/lang/Math"
def TJ9 : u_T := fun k => match k with
  | _ => ("", "", "", false)
def tyJ9 : Nat → FieldType := fun k => match k with
  | _ => .int
abbrev wsJ90 : List Cond := u_ws RJ9 TJ9 0
theorem nmJ9 : ∀ a, a < 0 → ∀ b, b < 0 → a ≠ b → (TJ9 a).2.1 ≠ (TJ9 b).2.1 := by decide +kernel
theorem tyJ9_ok : ∀ k, k < 0 → parseFieldDescriptor (TJ9 k).2.2.1 = some (tyJ9 k) := by decide +kernel
abbrev cJ9_max_7cf53 : ByteArray := prog_9_method_65_code
def yJ9_max_7cf53 : MethodName := ⟨RJ9, "max", "(II)I"⟩
abbrev cJ9_min_7cf53 : ByteArray := prog_9_method_69_code
def yJ9_min_7cf53 : MethodName := ⟨RJ9, "min", "(II)I"⟩
def RJ10 : String := "java/lang/System"
def TJ10 : u_T := fun k => match k with
  | _ => ("", "", "", false)
def tyJ10 : Nat → FieldType := fun k => match k with
  | _ => .int
abbrev wsJ100 : List Cond := u_ws RJ10 TJ10 0
theorem nmJ10 : ∀ a, a < 0 → ∀ b, b < 0 → a ≠ b → (TJ10 a).2.1 ≠ (TJ10 b).2.1 := by decide +kernel
theorem tyJ10_ok : ∀ k, k < 0 → parseFieldDescriptor (TJ10 k).2.2.1 = some (tyJ10 k) := by decide +kernel
def RL : String := "GaveTheDayBeforeLaw"
abbrev cL_law : ByteArray := code
def yL_law : MethodName := ⟨RL, "law", "([I)Z"⟩
abbrev vwCl : List vw_C := [(RX0, TX0, 3), (RX1, TX1, 3), (RX2, TX2, 8), (RX3, TX3, 9), (RX4, TX4, 10), (RX5, TX5, 39)]
end
section
theorem dX0_init_0 : decode cX0_init 0 = .ok (.aload_n 0, 1) := by decide +kernel
theorem dX0_init_1 : decode cX0_init 1 = .ok (.invokespecial 5, 3) := by decide +kernel
theorem dX0_init_4 : decode cX0_init 4 = .ok (.aload_n 0, 1) := by decide +kernel
theorem dX0_init_5 : decode cX0_init 5 = .ok (.sipush 252, 3) := by decide +kernel
theorem dX0_init_8 : decode cX0_init 8 = .ok (.newarray .int, 2) := by decide +kernel
theorem dX0_init_10 : decode cX0_init 10 = .ok (.putfield 11, 3) := by decide +kernel
theorem dX0_init_13 : decode cX0_init 13 = .ok (.aload_n 0, 1) := by decide +kernel
theorem dX0_init_14 : decode cX0_init 14 = .ok (.bipush 36, 2) := by decide +kernel
theorem dX0_init_16 : decode cX0_init 16 = .ok (.newarray .int, 2) := by decide +kernel
theorem dX0_init_18 : decode cX0_init 18 = .ok (.putfield 15, 3) := by decide +kernel
theorem dX0_init_21 : decode cX0_init 21 = .ok (.aload_n 0, 1) := by decide +kernel
theorem dX0_init_22 : decode cX0_init 22 = .ok (.bipush 11, 2) := by decide +kernel
theorem dX0_init_24 : decode cX0_init 24 = .ok (.newarray .long, 2) := by decide +kernel
theorem dX0_init_26 : decode cX0_init 26 = .ok (.putfield 18, 3) := by decide +kernel
theorem dX0_init_29 : decode cX0_init 29 = .ok (.return_, 1) := by decide +kernel
theorem dX0_become_0 : decode cX0_become 0 = .ok (.aload_n 1, 1) := by decide +kernel
theorem dX0_become_1 : decode cX0_become 1 = .ok (.getfield 11, 3) := by decide +kernel
theorem dX0_become_4 : decode cX0_become 4 = .ok (.iconst 0, 1) := by decide +kernel
theorem dX0_become_5 : decode cX0_become 5 = .ok (.aload_n 0, 1) := by decide +kernel
theorem dX0_become_6 : decode cX0_become 6 = .ok (.getfield 11, 3) := by decide +kernel
theorem dX0_become_9 : decode cX0_become 9 = .ok (.iconst 0, 1) := by decide +kernel
theorem dX0_become_10 : decode cX0_become 10 = .ok (.aload_n 0, 1) := by decide +kernel
theorem dX0_become_11 : decode cX0_become 11 = .ok (.getfield 11, 3) := by decide +kernel
theorem dX0_become_14 : decode cX0_become 14 = .ok (.arraylength, 1) := by decide +kernel
theorem dX0_become_15 : decode cX0_become 15 = .ok (.invokestatic 22, 3) := by decide +kernel
theorem dX0_become_18 : decode cX0_become 18 = .ok (.aload_n 1, 1) := by decide +kernel
theorem dX0_become_19 : decode cX0_become 19 = .ok (.getfield 15, 3) := by decide +kernel
theorem dX0_become_22 : decode cX0_become 22 = .ok (.iconst 0, 1) := by decide +kernel
theorem dX0_become_23 : decode cX0_become 23 = .ok (.aload_n 0, 1) := by decide +kernel
theorem dX0_become_24 : decode cX0_become 24 = .ok (.getfield 15, 3) := by decide +kernel
theorem dX0_become_27 : decode cX0_become 27 = .ok (.iconst 0, 1) := by decide +kernel
theorem dX0_become_28 : decode cX0_become 28 = .ok (.aload_n 0, 1) := by decide +kernel
theorem dX0_become_29 : decode cX0_become 29 = .ok (.getfield 15, 3) := by decide +kernel
theorem dX0_become_32 : decode cX0_become 32 = .ok (.arraylength, 1) := by decide +kernel
theorem dX0_become_33 : decode cX0_become 33 = .ok (.invokestatic 22, 3) := by decide +kernel
theorem dX0_become_36 : decode cX0_become 36 = .ok (.aload_n 1, 1) := by decide +kernel
theorem dX0_become_37 : decode cX0_become 37 = .ok (.getfield 18, 3) := by decide +kernel
theorem dX0_become_40 : decode cX0_become 40 = .ok (.iconst 0, 1) := by decide +kernel
theorem dX0_become_41 : decode cX0_become 41 = .ok (.aload_n 0, 1) := by decide +kernel
theorem dX0_become_42 : decode cX0_become 42 = .ok (.getfield 18, 3) := by decide +kernel
theorem dX0_become_45 : decode cX0_become 45 = .ok (.iconst 0, 1) := by decide +kernel
theorem dX0_become_46 : decode cX0_become 46 = .ok (.aload_n 0, 1) := by decide +kernel
theorem dX0_become_47 : decode cX0_become 47 = .ok (.getfield 18, 3) := by decide +kernel
theorem dX0_become_50 : decode cX0_become 50 = .ok (.arraylength, 1) := by decide +kernel
theorem dX0_become_51 : decode cX0_become 51 = .ok (.invokestatic 22, 3) := by decide +kernel
theorem dX0_become_54 : decode cX0_become 54 = .ok (.return_, 1) := by decide +kernel
theorem dX0_add_0 : decode cX0_add 0 = .ok (.iload_n 2, 1) := by decide +kernel
theorem dX0_add_1 : decode cX0_add 1 = .ok (.bipush 9, 2) := by decide +kernel
theorem dX0_add_3 : decode cX0_add 3 = .ok (.if_icmp .ne 8, 3) := by decide +kernel
theorem dX0_add_6 : decode cX0_add 6 = .ok (.bipush 6, 2) := by decide +kernel
theorem dX0_add_8 : decode cX0_add 8 = .ok (.goto 4, 3) := by decide +kernel
theorem dX0_add_11 : decode cX0_add 11 = .ok (.iload_n 2, 1) := by decide +kernel
theorem dX0_add_12 : decode cX0_add 12 = .ok (.istore 4, 2) := by decide +kernel
theorem dX0_add_14 : decode cX0_add 14 = .ok (.aload_n 0, 1) := by decide +kernel
theorem dX0_add_15 : decode cX0_add 15 = .ok (.getfield 11, 3) := by decide +kernel
theorem dX0_add_18 : decode cX0_add 18 = .ok (.iload_n 1, 1) := by decide +kernel
theorem dX0_add_19 : decode cX0_add 19 = .ok (.bipush 7, 2) := by decide +kernel
theorem dX0_add_21 : decode cX0_add 21 = .ok (.imul, 1) := by decide +kernel
theorem dX0_add_22 : decode cX0_add 22 = .ok (.iload 4, 2) := by decide +kernel
theorem dX0_add_24 : decode cX0_add 24 = .ok (.iadd, 1) := by decide +kernel
theorem dX0_add_25 : decode cX0_add 25 = .ok (.dup2, 1) := by decide +kernel
theorem dX0_add_26 : decode cX0_add 26 = .ok (.iaload, 1) := by decide +kernel
theorem dX0_add_27 : decode cX0_add 27 = .ok (.iload_n 3, 1) := by decide +kernel
theorem dX0_add_28 : decode cX0_add 28 = .ok (.iadd, 1) := by decide +kernel
theorem dX0_add_29 : decode cX0_add 29 = .ok (.iastore, 1) := by decide +kernel
theorem dX0_add_30 : decode cX0_add 30 = .ok (.iload 4, 2) := by decide +kernel
theorem dX0_add_32 : decode cX0_add 32 = .ok (.bipush 6, 2) := by decide +kernel
theorem dX0_add_34 : decode cX0_add 34 = .ok (.if_icmp .eq 20, 3) := by decide +kernel
theorem dX0_add_37 : decode cX0_add 37 = .ok (.aload_n 0, 1) := by decide +kernel
theorem dX0_add_38 : decode cX0_add 38 = .ok (.getfield 18, 3) := by decide +kernel
theorem dX0_add_41 : decode cX0_add 41 = .ok (.iconst 0, 1) := by decide +kernel
theorem dX0_add_42 : decode cX0_add 42 = .ok (.dup2, 1) := by decide +kernel
theorem dX0_add_43 : decode cX0_add 43 = .ok (.laload, 1) := by decide +kernel
theorem dX0_add_44 : decode cX0_add 44 = .ok (.lconst 1, 1) := by decide +kernel
theorem dX0_add_45 : decode cX0_add 45 = .ok (.iload_n 1, 1) := by decide +kernel
theorem dX0_add_46 : decode cX0_add 46 = .ok (.bipush 6, 2) := by decide +kernel
theorem dX0_add_48 : decode cX0_add 48 = .ok (.imul, 1) := by decide +kernel
theorem dX0_add_49 : decode cX0_add 49 = .ok (.iload_n 2, 1) := by decide +kernel
theorem dX0_add_50 : decode cX0_add 50 = .ok (.iadd, 1) := by decide +kernel
theorem dX0_add_51 : decode cX0_add 51 = .ok (.lshl, 1) := by decide +kernel
theorem dX0_add_52 : decode cX0_add 52 = .ok (.lor, 1) := by decide +kernel
theorem dX0_add_53 : decode cX0_add 53 = .ok (.lastore, 1) := by decide +kernel
theorem dX0_add_54 : decode cX0_add 54 = .ok (.return_, 1) := by decide +kernel
theorem dX0_givenToday_0 : decode cX0_givenToday 0 = .ok (.iconst 0, 1) := by decide +kernel
theorem dX0_givenToday_1 : decode cX0_givenToday 1 = .ok (.istore_n 2, 1) := by decide +kernel
theorem dX0_givenToday_2 : decode cX0_givenToday 2 = .ok (.iconst 0, 1) := by decide +kernel
theorem dX0_givenToday_3 : decode cX0_givenToday 3 = .ok (.istore_n 3, 1) := by decide +kernel
theorem dX0_givenToday_4 : decode cX0_givenToday 4 = .ok (.iload_n 3, 1) := by decide +kernel
theorem dX0_givenToday_5 : decode cX0_givenToday 5 = .ok (.bipush 7, 2) := by decide +kernel
theorem dX0_givenToday_7 : decode cX0_givenToday 7 = .ok (.if_icmp .ge 23, 3) := by decide +kernel
theorem dX0_givenToday_10 : decode cX0_givenToday 10 = .ok (.iload_n 2, 1) := by decide +kernel
theorem dX0_givenToday_11 : decode cX0_givenToday 11 = .ok (.aload_n 0, 1) := by decide +kernel
theorem dX0_givenToday_12 : decode cX0_givenToday 12 = .ok (.getfield 11, 3) := by decide +kernel
theorem dX0_givenToday_15 : decode cX0_givenToday 15 = .ok (.iload_n 1, 1) := by decide +kernel
theorem dX0_givenToday_16 : decode cX0_givenToday 16 = .ok (.bipush 7, 2) := by decide +kernel
theorem dX0_givenToday_18 : decode cX0_givenToday 18 = .ok (.imul, 1) := by decide +kernel
theorem dX0_givenToday_19 : decode cX0_givenToday 19 = .ok (.iload_n 3, 1) := by decide +kernel
theorem dX0_givenToday_20 : decode cX0_givenToday 20 = .ok (.iadd, 1) := by decide +kernel
theorem dX0_givenToday_21 : decode cX0_givenToday 21 = .ok (.iaload, 1) := by decide +kernel
theorem dX0_givenToday_22 : decode cX0_givenToday 22 = .ok (.iadd, 1) := by decide +kernel
theorem dX0_givenToday_23 : decode cX0_givenToday 23 = .ok (.istore_n 2, 1) := by decide +kernel
theorem dX0_givenToday_24 : decode cX0_givenToday 24 = .ok (.iinc 3 1, 3) := by decide +kernel
theorem dX0_givenToday_27 : decode cX0_givenToday 27 = .ok (.goto (-23), 3) := by decide +kernel
theorem dX0_givenToday_30 : decode cX0_givenToday 30 = .ok (.iload_n 2, 1) := by decide +kernel
theorem dX0_givenToday_31 : decode cX0_givenToday 31 = .ok (.ireturn, 1) := by decide +kernel
theorem dX0_gotToday_0 : decode cX0_gotToday 0 = .ok (.aload_n 0, 1) := by decide +kernel
theorem dX0_gotToday_1 : decode cX0_gotToday 1 = .ok (.iconst 0, 1) := by decide +kernel
theorem dX0_gotToday_2 : decode cX0_gotToday 2 = .ok (.iload_n 1, 1) := by decide +kernel
theorem dX0_gotToday_3 : decode cX0_gotToday 3 = .ok (.invokevirtual 28, 3) := by decide +kernel
theorem dX0_gotToday_6 : decode cX0_gotToday 6 = .ok (.ireturn, 1) := by decide +kernel
theorem dX0_gotYesterday_0 : decode cX0_gotYesterday 0 = .ok (.aload_n 0, 1) := by decide +kernel
theorem dX0_gotYesterday_1 : decode cX0_gotYesterday 1 = .ok (.iconst 1, 1) := by decide +kernel
theorem dX0_gotYesterday_2 : decode cX0_gotYesterday 2 = .ok (.iload_n 1, 1) := by decide +kernel
theorem dX0_gotYesterday_3 : decode cX0_gotYesterday 3 = .ok (.invokevirtual 28, 3) := by decide +kernel
theorem dX0_gotYesterday_6 : decode cX0_gotYesterday 6 = .ok (.ireturn, 1) := by decide +kernel
theorem dX0_got_0 : decode cX0_got 0 = .ok (.iconst 0, 1) := by decide +kernel
theorem dX0_got_1 : decode cX0_got 1 = .ok (.istore_n 3, 1) := by decide +kernel
theorem dX0_got_2 : decode cX0_got 2 = .ok (.iconst 0, 1) := by decide +kernel
theorem dX0_got_3 : decode cX0_got 3 = .ok (.istore 4, 2) := by decide +kernel
theorem dX0_got_5 : decode cX0_got 5 = .ok (.iload 4, 2) := by decide +kernel
theorem dX0_got_7 : decode cX0_got 7 = .ok (.bipush 6, 2) := by decide +kernel
theorem dX0_got_9 : decode cX0_got 9 = .ok (.if_icmp .ge 29, 3) := by decide +kernel
theorem dX0_got_12 : decode cX0_got 12 = .ok (.iload_n 3, 1) := by decide +kernel
theorem dX0_got_13 : decode cX0_got 13 = .ok (.aload_n 0, 1) := by decide +kernel
theorem dX0_got_14 : decode cX0_got 14 = .ok (.getfield 11, 3) := by decide +kernel
theorem dX0_got_17 : decode cX0_got 17 = .ok (.iload_n 1, 1) := by decide +kernel
theorem dX0_got_18 : decode cX0_got 18 = .ok (.bipush 42, 2) := by decide +kernel
theorem dX0_got_20 : decode cX0_got 20 = .ok (.imul, 1) := by decide +kernel
theorem dX0_got_21 : decode cX0_got 21 = .ok (.iload 4, 2) := by decide +kernel
theorem dX0_got_23 : decode cX0_got 23 = .ok (.bipush 7, 2) := by decide +kernel
theorem dX0_got_25 : decode cX0_got 25 = .ok (.imul, 1) := by decide +kernel
theorem dX0_got_26 : decode cX0_got 26 = .ok (.iadd, 1) := by decide +kernel
theorem dX0_got_27 : decode cX0_got 27 = .ok (.iload_n 2, 1) := by decide +kernel
theorem dX0_got_28 : decode cX0_got 28 = .ok (.iadd, 1) := by decide +kernel
theorem dX0_got_29 : decode cX0_got 29 = .ok (.iaload, 1) := by decide +kernel
theorem dX0_got_30 : decode cX0_got 30 = .ok (.iadd, 1) := by decide +kernel
theorem dX0_got_31 : decode cX0_got 31 = .ok (.istore_n 3, 1) := by decide +kernel
theorem dX0_got_32 : decode cX0_got 32 = .ok (.iinc 4 1, 3) := by decide +kernel
theorem dX0_got_35 : decode cX0_got 35 = .ok (.goto (-30), 3) := by decide +kernel
theorem dX0_got_38 : decode cX0_got 38 = .ok (.iload_n 3, 1) := by decide +kernel
theorem dX0_got_39 : decode cX0_got 39 = .ok (.ireturn, 1) := by decide +kernel
theorem dX0_countedYesterday_0 : decode cX0_countedYesterday 0 = .ok (.aload_n 0, 1) := by decide +kernel
theorem dX0_countedYesterday_1 : decode cX0_countedYesterday 1 = .ok (.getfield 15, 3) := by decide +kernel
theorem dX0_countedYesterday_4 : decode cX0_countedYesterday 4 = .ok (.bipush 6, 2) := by decide +kernel
theorem dX0_countedYesterday_6 : decode cX0_countedYesterday 6 = .ok (.iload_n 1, 1) := by decide +kernel
theorem dX0_countedYesterday_7 : decode cX0_countedYesterday 7 = .ok (.iadd, 1) := by decide +kernel
theorem dX0_countedYesterday_8 : decode cX0_countedYesterday 8 = .ok (.iaload, 1) := by decide +kernel
theorem dX0_countedYesterday_9 : decode cX0_countedYesterday 9 = .ok (.ireturn, 1) := by decide +kernel
theorem dX0_countedTogether_0 : decode cX0_countedTogether 0 = .ok (.iconst 0, 1) := by decide +kernel
theorem dX0_countedTogether_1 : decode cX0_countedTogether 1 = .ok (.istore_n 3, 1) := by decide +kernel
theorem dX0_countedTogether_2 : decode cX0_countedTogether 2 = .ok (.iconst 1, 1) := by decide +kernel
theorem dX0_countedTogether_3 : decode cX0_countedTogether 3 = .ok (.istore 4, 2) := by decide +kernel
theorem dX0_countedTogether_5 : decode cX0_countedTogether 5 = .ok (.iload 4, 2) := by decide +kernel
theorem dX0_countedTogether_7 : decode cX0_countedTogether 7 = .ok (.iload_n 1, 1) := by decide +kernel
theorem dX0_countedTogether_8 : decode cX0_countedTogether 8 = .ok (.if_icmp .gt 31, 3) := by decide +kernel
theorem dX0_countedTogether_11 : decode cX0_countedTogether 11 = .ok (.iload 4, 2) := by decide +kernel
theorem dX0_countedTogether_13 : decode cX0_countedTogether 13 = .ok (.bipush 6, 2) := by decide +kernel
theorem dX0_countedTogether_15 : decode cX0_countedTogether 15 = .ok (.if_icmp .ge 24, 3) := by decide +kernel
theorem dX0_countedTogether_18 : decode cX0_countedTogether 18 = .ok (.iload_n 3, 1) := by decide +kernel
theorem dX0_countedTogether_19 : decode cX0_countedTogether 19 = .ok (.aload_n 0, 1) := by decide +kernel
theorem dX0_countedTogether_20 : decode cX0_countedTogether 20 = .ok (.getfield 15, 3) := by decide +kernel
theorem dX0_countedTogether_23 : decode cX0_countedTogether 23 = .ok (.iload 4, 2) := by decide +kernel
theorem dX0_countedTogether_25 : decode cX0_countedTogether 25 = .ok (.bipush 6, 2) := by decide +kernel
theorem dX0_countedTogether_27 : decode cX0_countedTogether 27 = .ok (.imul, 1) := by decide +kernel
theorem dX0_countedTogether_28 : decode cX0_countedTogether 28 = .ok (.iload_n 2, 1) := by decide +kernel
theorem dX0_countedTogether_29 : decode cX0_countedTogether 29 = .ok (.iadd, 1) := by decide +kernel
theorem dX0_countedTogether_30 : decode cX0_countedTogether 30 = .ok (.iaload, 1) := by decide +kernel
theorem dX0_countedTogether_31 : decode cX0_countedTogether 31 = .ok (.iadd, 1) := by decide +kernel
theorem dX0_countedTogether_32 : decode cX0_countedTogether 32 = .ok (.istore_n 3, 1) := by decide +kernel
theorem dX0_countedTogether_33 : decode cX0_countedTogether 33 = .ok (.iinc 4 1, 3) := by decide +kernel
theorem dX0_countedTogether_36 : decode cX0_countedTogether 36 = .ok (.goto (-31), 3) := by decide +kernel
theorem dX0_countedTogether_39 : decode cX0_countedTogether 39 = .ok (.iload_n 3, 1) := by decide +kernel
theorem dX0_countedTogether_40 : decode cX0_countedTogether 40 = .ok (.ireturn, 1) := by decide +kernel
theorem dX0_countedAtBest_0 : decode cX0_countedAtBest 0 = .ok (.iconst 0, 1) := by decide +kernel
theorem dX0_countedAtBest_1 : decode cX0_countedAtBest 1 = .ok (.istore_n 3, 1) := by decide +kernel
theorem dX0_countedAtBest_2 : decode cX0_countedAtBest 2 = .ok (.iconst 1, 1) := by decide +kernel
theorem dX0_countedAtBest_3 : decode cX0_countedAtBest 3 = .ok (.istore 4, 2) := by decide +kernel
theorem dX0_countedAtBest_5 : decode cX0_countedAtBest 5 = .ok (.iload 4, 2) := by decide +kernel
theorem dX0_countedAtBest_7 : decode cX0_countedAtBest 7 = .ok (.iload_n 1, 1) := by decide +kernel
theorem dX0_countedAtBest_8 : decode cX0_countedAtBest 8 = .ok (.if_icmp .gt 33, 3) := by decide +kernel
theorem dX0_countedAtBest_11 : decode cX0_countedAtBest 11 = .ok (.iload 4, 2) := by decide +kernel
theorem dX0_countedAtBest_13 : decode cX0_countedAtBest 13 = .ok (.bipush 6, 2) := by decide +kernel
theorem dX0_countedAtBest_15 : decode cX0_countedAtBest 15 = .ok (.if_icmp .ge 26, 3) := by decide +kernel
theorem dX0_countedAtBest_18 : decode cX0_countedAtBest 18 = .ok (.iload_n 3, 1) := by decide +kernel
theorem dX0_countedAtBest_19 : decode cX0_countedAtBest 19 = .ok (.aload_n 0, 1) := by decide +kernel
theorem dX0_countedAtBest_20 : decode cX0_countedAtBest 20 = .ok (.getfield 15, 3) := by decide +kernel
theorem dX0_countedAtBest_23 : decode cX0_countedAtBest 23 = .ok (.iload 4, 2) := by decide +kernel
theorem dX0_countedAtBest_25 : decode cX0_countedAtBest 25 = .ok (.bipush 6, 2) := by decide +kernel
theorem dX0_countedAtBest_27 : decode cX0_countedAtBest 27 = .ok (.imul, 1) := by decide +kernel
theorem dX0_countedAtBest_28 : decode cX0_countedAtBest 28 = .ok (.iload_n 2, 1) := by decide +kernel
theorem dX0_countedAtBest_29 : decode cX0_countedAtBest 29 = .ok (.iadd, 1) := by decide +kernel
theorem dX0_countedAtBest_30 : decode cX0_countedAtBest 30 = .ok (.iaload, 1) := by decide +kernel
theorem dX0_countedAtBest_31 : decode cX0_countedAtBest 31 = .ok (.invokestatic 32, 3) := by decide +kernel
theorem dX0_countedAtBest_34 : decode cX0_countedAtBest 34 = .ok (.istore_n 3, 1) := by decide +kernel
theorem dX0_countedAtBest_35 : decode cX0_countedAtBest 35 = .ok (.iinc 4 1, 3) := by decide +kernel
theorem dX0_countedAtBest_38 : decode cX0_countedAtBest 38 = .ok (.goto (-33), 3) := by decide +kernel
theorem dX0_countedAtBest_41 : decode cX0_countedAtBest 41 = .ok (.iload_n 3, 1) := by decide +kernel
theorem dX0_countedAtBest_42 : decode cX0_countedAtBest 42 = .ok (.ireturn, 1) := by decide +kernel
theorem dX0_countPastDays_0 : decode cX0_countPastDays 0 = .ok (.iconst 1, 1) := by decide +kernel
theorem dX0_countPastDays_1 : decode cX0_countPastDays 1 = .ok (.istore_n 2, 1) := by decide +kernel
theorem dX0_countPastDays_2 : decode cX0_countPastDays 2 = .ok (.iload_n 2, 1) := by decide +kernel
theorem dX0_countPastDays_3 : decode cX0_countPastDays 3 = .ok (.bipush 6, 2) := by decide +kernel
theorem dX0_countPastDays_5 : decode cX0_countPastDays 5 = .ok (.if_icmp .ge 15, 3) := by decide +kernel
theorem dX0_countPastDays_8 : decode cX0_countPastDays 8 = .ok (.aload_n 0, 1) := by decide +kernel
theorem dX0_countPastDays_9 : decode cX0_countPastDays 9 = .ok (.iload_n 2, 1) := by decide +kernel
theorem dX0_countPastDays_10 : decode cX0_countPastDays 10 = .ok (.iload_n 1, 1) := by decide +kernel
theorem dX0_countPastDays_11 : decode cX0_countPastDays 11 = .ok (.invokevirtual 37, 3) := by decide +kernel
theorem dX0_countPastDays_14 : decode cX0_countPastDays 14 = .ok (.iinc 2 1, 3) := by decide +kernel
theorem dX0_countPastDays_17 : decode cX0_countPastDays 17 = .ok (.goto (-15), 3) := by decide +kernel
theorem dX0_countPastDays_20 : decode cX0_countPastDays 20 = .ok (.return_, 1) := by decide +kernel
theorem dX0_countDay_0 : decode cX0_countDay 0 = .ok (.lconst 0, 1) := by decide +kernel
theorem dX0_countDay_1 : decode cX0_countDay 1 = .ok (.lstore_n 3, 1) := by decide +kernel
theorem dX0_countDay_2 : decode cX0_countDay 2 = .ok (.iload_n 2, 1) := by decide +kernel
theorem dX0_countDay_3 : decode cX0_countDay 3 = .ok (.ifCond .le 37, 3) := by decide +kernel
theorem dX0_countDay_6 : decode cX0_countDay 6 = .ok (.iload_n 1, 1) := by decide +kernel
theorem dX0_countDay_7 : decode cX0_countDay 7 = .ok (.istore 5, 2) := by decide +kernel
theorem dX0_countDay_9 : decode cX0_countDay 9 = .ok (.iload 5, 2) := by decide +kernel
theorem dX0_countDay_11 : decode cX0_countDay 11 = .ok (.iload_n 1, 1) := by decide +kernel
theorem dX0_countDay_12 : decode cX0_countDay 12 = .ok (.iload_n 2, 1) := by decide +kernel
theorem dX0_countDay_13 : decode cX0_countDay 13 = .ok (.iadd, 1) := by decide +kernel
theorem dX0_countDay_14 : decode cX0_countDay 14 = .ok (.if_icmp .gt 26, 3) := by decide +kernel
theorem dX0_countDay_17 : decode cX0_countDay 17 = .ok (.iload 5, 2) := by decide +kernel
theorem dX0_countDay_19 : decode cX0_countDay 19 = .ok (.bipush 11, 2) := by decide +kernel
theorem dX0_countDay_21 : decode cX0_countDay 21 = .ok (.if_icmp .ge 19, 3) := by decide +kernel
theorem dX0_countDay_24 : decode cX0_countDay 24 = .ok (.lload_n 3, 1) := by decide +kernel
theorem dX0_countDay_25 : decode cX0_countDay 25 = .ok (.aload_n 0, 1) := by decide +kernel
theorem dX0_countDay_26 : decode cX0_countDay 26 = .ok (.getfield 18, 3) := by decide +kernel
theorem dX0_countDay_29 : decode cX0_countDay 29 = .ok (.iload 5, 2) := by decide +kernel
theorem dX0_countDay_31 : decode cX0_countDay 31 = .ok (.laload, 1) := by decide +kernel
theorem dX0_countDay_32 : decode cX0_countDay 32 = .ok (.lor, 1) := by decide +kernel
theorem dX0_countDay_33 : decode cX0_countDay 33 = .ok (.lstore_n 3, 1) := by decide +kernel
theorem dX0_countDay_34 : decode cX0_countDay 34 = .ok (.iinc 5 1, 3) := by decide +kernel
theorem dX0_countDay_37 : decode cX0_countDay 37 = .ok (.goto (-28), 3) := by decide +kernel
theorem dX0_countDay_40 : decode cX0_countDay 40 = .ok (.iconst 0, 1) := by decide +kernel
theorem dX0_countDay_41 : decode cX0_countDay 41 = .ok (.istore 5, 2) := by decide +kernel
theorem dX0_countDay_43 : decode cX0_countDay 43 = .ok (.iload 5, 2) := by decide +kernel
theorem dX0_countDay_45 : decode cX0_countDay 45 = .ok (.bipush 6, 2) := by decide +kernel
theorem dX0_countDay_47 : decode cX0_countDay 47 = .ok (.if_icmp .ge 29, 3) := by decide +kernel
theorem dX0_countDay_50 : decode cX0_countDay 50 = .ok (.aload_n 0, 1) := by decide +kernel
theorem dX0_countDay_51 : decode cX0_countDay 51 = .ok (.getfield 15, 3) := by decide +kernel
theorem dX0_countDay_54 : decode cX0_countDay 54 = .ok (.iload_n 1, 1) := by decide +kernel
theorem dX0_countDay_55 : decode cX0_countDay 55 = .ok (.bipush 6, 2) := by decide +kernel
theorem dX0_countDay_57 : decode cX0_countDay 57 = .ok (.imul, 1) := by decide +kernel
theorem dX0_countDay_58 : decode cX0_countDay 58 = .ok (.iload 5, 2) := by decide +kernel
theorem dX0_countDay_60 : decode cX0_countDay 60 = .ok (.iadd, 1) := by decide +kernel
theorem dX0_countDay_61 : decode cX0_countDay 61 = .ok (.aload_n 0, 1) := by decide +kernel
theorem dX0_countDay_62 : decode cX0_countDay 62 = .ok (.iload_n 1, 1) := by decide +kernel
theorem dX0_countDay_63 : decode cX0_countDay 63 = .ok (.iload 5, 2) := by decide +kernel
theorem dX0_countDay_65 : decode cX0_countDay 65 = .ok (.lload_n 3, 1) := by decide +kernel
theorem dX0_countDay_66 : decode cX0_countDay 66 = .ok (.invokevirtual 41, 3) := by decide +kernel
theorem dX0_countDay_69 : decode cX0_countDay 69 = .ok (.iastore, 1) := by decide +kernel
theorem dX0_countDay_70 : decode cX0_countDay 70 = .ok (.iinc 5 1, 3) := by decide +kernel
theorem dX0_countDay_73 : decode cX0_countDay 73 = .ok (.goto (-30), 3) := by decide +kernel
theorem dX0_countDay_76 : decode cX0_countDay 76 = .ok (.return_, 1) := by decide +kernel
theorem dX0_countOf_0 : decode cX0_countOf 0 = .ok (.iload_n 1, 1) := by decide +kernel
theorem dX0_countOf_1 : decode cX0_countOf 1 = .ok (.bipush 42, 2) := by decide +kernel
theorem dX0_countOf_3 : decode cX0_countOf 3 = .ok (.imul, 1) := by decide +kernel
theorem dX0_countOf_4 : decode cX0_countOf 4 = .ok (.iload_n 2, 1) := by decide +kernel
theorem dX0_countOf_5 : decode cX0_countOf 5 = .ok (.bipush 7, 2) := by decide +kernel
theorem dX0_countOf_7 : decode cX0_countOf 7 = .ok (.imul, 1) := by decide +kernel
theorem dX0_countOf_8 : decode cX0_countOf 8 = .ok (.iadd, 1) := by decide +kernel
theorem dX0_countOf_9 : decode cX0_countOf 9 = .ok (.istore 5, 2) := by decide +kernel
theorem dX0_countOf_11 : decode cX0_countOf 11 = .ok (.aload_n 0, 1) := by decide +kernel
theorem dX0_countOf_12 : decode cX0_countOf 12 = .ok (.getfield 11, 3) := by decide +kernel
theorem dX0_countOf_15 : decode cX0_countOf 15 = .ok (.iload 5, 2) := by decide +kernel
theorem dX0_countOf_17 : decode cX0_countOf 17 = .ok (.bipush 6, 2) := by decide +kernel
theorem dX0_countOf_19 : decode cX0_countOf 19 = .ok (.iadd, 1) := by decide +kernel
theorem dX0_countOf_20 : decode cX0_countOf 20 = .ok (.iaload, 1) := by decide +kernel
theorem dX0_countOf_21 : decode cX0_countOf 21 = .ok (.istore 6, 2) := by decide +kernel
theorem dX0_countOf_23 : decode cX0_countOf 23 = .ok (.iconst 0, 1) := by decide +kernel
theorem dX0_countOf_24 : decode cX0_countOf 24 = .ok (.istore 7, 2) := by decide +kernel
theorem dX0_countOf_26 : decode cX0_countOf 26 = .ok (.iload 7, 2) := by decide +kernel
theorem dX0_countOf_28 : decode cX0_countOf 28 = .ok (.bipush 6, 2) := by decide +kernel
theorem dX0_countOf_30 : decode cX0_countOf 30 = .ok (.if_icmp .ge 40, 3) := by decide +kernel
theorem dX0_countOf_33 : decode cX0_countOf 33 = .ok (.lload_n 3, 1) := by decide +kernel
theorem dX0_countOf_34 : decode cX0_countOf 34 = .ok (.lconst 1, 1) := by decide +kernel
theorem dX0_countOf_35 : decode cX0_countOf 35 = .ok (.iload 7, 2) := by decide +kernel
theorem dX0_countOf_37 : decode cX0_countOf 37 = .ok (.bipush 6, 2) := by decide +kernel
theorem dX0_countOf_39 : decode cX0_countOf 39 = .ok (.imul, 1) := by decide +kernel
theorem dX0_countOf_40 : decode cX0_countOf 40 = .ok (.iload_n 2, 1) := by decide +kernel
theorem dX0_countOf_41 : decode cX0_countOf 41 = .ok (.iadd, 1) := by decide +kernel
theorem dX0_countOf_42 : decode cX0_countOf 42 = .ok (.lshl, 1) := by decide +kernel
theorem dX0_countOf_43 : decode cX0_countOf 43 = .ok (.land, 1) := by decide +kernel
theorem dX0_countOf_44 : decode cX0_countOf 44 = .ok (.lconst 0, 1) := by decide +kernel
theorem dX0_countOf_45 : decode cX0_countOf 45 = .ok (.lcmp, 1) := by decide +kernel
theorem dX0_countOf_46 : decode cX0_countOf 46 = .ok (.ifCond .ne 18, 3) := by decide +kernel
theorem dX0_countOf_49 : decode cX0_countOf 49 = .ok (.iload 6, 2) := by decide +kernel
theorem dX0_countOf_51 : decode cX0_countOf 51 = .ok (.aload_n 0, 1) := by decide +kernel
theorem dX0_countOf_52 : decode cX0_countOf 52 = .ok (.getfield 11, 3) := by decide +kernel
theorem dX0_countOf_55 : decode cX0_countOf 55 = .ok (.iload 5, 2) := by decide +kernel
theorem dX0_countOf_57 : decode cX0_countOf 57 = .ok (.iload 7, 2) := by decide +kernel
theorem dX0_countOf_59 : decode cX0_countOf 59 = .ok (.iadd, 1) := by decide +kernel
theorem dX0_countOf_60 : decode cX0_countOf 60 = .ok (.iaload, 1) := by decide +kernel
theorem dX0_countOf_61 : decode cX0_countOf 61 = .ok (.iadd, 1) := by decide +kernel
theorem dX0_countOf_62 : decode cX0_countOf 62 = .ok (.istore 6, 2) := by decide +kernel
theorem dX0_countOf_64 : decode cX0_countOf 64 = .ok (.iinc 7 1, 3) := by decide +kernel
theorem dX0_countOf_67 : decode cX0_countOf 67 = .ok (.goto (-41), 3) := by decide +kernel
theorem dX0_countOf_70 : decode cX0_countOf 70 = .ok (.iload 6, 2) := by decide +kernel
theorem dX0_countOf_72 : decode cX0_countOf 72 = .ok (.ireturn, 1) := by decide +kernel
theorem dX0_turnToNextDay_0 : decode cX0_turnToNextDay 0 = .ok (.aload_n 0, 1) := by decide +kernel
theorem dX0_turnToNextDay_1 : decode cX0_turnToNextDay 1 = .ok (.getfield 11, 3) := by decide +kernel
theorem dX0_turnToNextDay_4 : decode cX0_turnToNextDay 4 = .ok (.iconst 0, 1) := by decide +kernel
theorem dX0_turnToNextDay_5 : decode cX0_turnToNextDay 5 = .ok (.aload_n 0, 1) := by decide +kernel
theorem dX0_turnToNextDay_6 : decode cX0_turnToNextDay 6 = .ok (.getfield 11, 3) := by decide +kernel
theorem dX0_turnToNextDay_9 : decode cX0_turnToNextDay 9 = .ok (.bipush 42, 2) := by decide +kernel
theorem dX0_turnToNextDay_11 : decode cX0_turnToNextDay 11 = .ok (.aload_n 0, 1) := by decide +kernel
theorem dX0_turnToNextDay_12 : decode cX0_turnToNextDay 12 = .ok (.getfield 11, 3) := by decide +kernel
theorem dX0_turnToNextDay_15 : decode cX0_turnToNextDay 15 = .ok (.arraylength, 1) := by decide +kernel
theorem dX0_turnToNextDay_16 : decode cX0_turnToNextDay 16 = .ok (.bipush 42, 2) := by decide +kernel
theorem dX0_turnToNextDay_18 : decode cX0_turnToNextDay 18 = .ok (.isub, 1) := by decide +kernel
theorem dX0_turnToNextDay_19 : decode cX0_turnToNextDay 19 = .ok (.invokestatic 22, 3) := by decide +kernel
theorem dX0_turnToNextDay_22 : decode cX0_turnToNextDay 22 = .ok (.aload_n 0, 1) := by decide +kernel
theorem dX0_turnToNextDay_23 : decode cX0_turnToNextDay 23 = .ok (.getfield 15, 3) := by decide +kernel
theorem dX0_turnToNextDay_26 : decode cX0_turnToNextDay 26 = .ok (.iconst 0, 1) := by decide +kernel
theorem dX0_turnToNextDay_27 : decode cX0_turnToNextDay 27 = .ok (.aload_n 0, 1) := by decide +kernel
theorem dX0_turnToNextDay_28 : decode cX0_turnToNextDay 28 = .ok (.getfield 15, 3) := by decide +kernel
theorem dX0_turnToNextDay_31 : decode cX0_turnToNextDay 31 = .ok (.bipush 6, 2) := by decide +kernel
theorem dX0_turnToNextDay_33 : decode cX0_turnToNextDay 33 = .ok (.aload_n 0, 1) := by decide +kernel
theorem dX0_turnToNextDay_34 : decode cX0_turnToNextDay 34 = .ok (.getfield 15, 3) := by decide +kernel
theorem dX0_turnToNextDay_37 : decode cX0_turnToNextDay 37 = .ok (.arraylength, 1) := by decide +kernel
theorem dX0_turnToNextDay_38 : decode cX0_turnToNextDay 38 = .ok (.bipush 6, 2) := by decide +kernel
theorem dX0_turnToNextDay_40 : decode cX0_turnToNextDay 40 = .ok (.isub, 1) := by decide +kernel
theorem dX0_turnToNextDay_41 : decode cX0_turnToNextDay 41 = .ok (.invokestatic 22, 3) := by decide +kernel
theorem dX0_turnToNextDay_44 : decode cX0_turnToNextDay 44 = .ok (.aload_n 0, 1) := by decide +kernel
theorem dX0_turnToNextDay_45 : decode cX0_turnToNextDay 45 = .ok (.getfield 18, 3) := by decide +kernel
theorem dX0_turnToNextDay_48 : decode cX0_turnToNextDay 48 = .ok (.iconst 0, 1) := by decide +kernel
theorem dX0_turnToNextDay_49 : decode cX0_turnToNextDay 49 = .ok (.aload_n 0, 1) := by decide +kernel
theorem dX0_turnToNextDay_50 : decode cX0_turnToNextDay 50 = .ok (.getfield 18, 3) := by decide +kernel
theorem dX0_turnToNextDay_53 : decode cX0_turnToNextDay 53 = .ok (.iconst 1, 1) := by decide +kernel
theorem dX0_turnToNextDay_54 : decode cX0_turnToNextDay 54 = .ok (.aload_n 0, 1) := by decide +kernel
theorem dX0_turnToNextDay_55 : decode cX0_turnToNextDay 55 = .ok (.getfield 18, 3) := by decide +kernel
theorem dX0_turnToNextDay_58 : decode cX0_turnToNextDay 58 = .ok (.arraylength, 1) := by decide +kernel
theorem dX0_turnToNextDay_59 : decode cX0_turnToNextDay 59 = .ok (.iconst 1, 1) := by decide +kernel
theorem dX0_turnToNextDay_60 : decode cX0_turnToNextDay 60 = .ok (.isub, 1) := by decide +kernel
theorem dX0_turnToNextDay_61 : decode cX0_turnToNextDay 61 = .ok (.invokestatic 22, 3) := by decide +kernel
theorem dX0_turnToNextDay_64 : decode cX0_turnToNextDay 64 = .ok (.iconst 0, 1) := by decide +kernel
theorem dX0_turnToNextDay_65 : decode cX0_turnToNextDay 65 = .ok (.istore_n 1, 1) := by decide +kernel
theorem dX0_turnToNextDay_66 : decode cX0_turnToNextDay 66 = .ok (.iload_n 1, 1) := by decide +kernel
theorem dX0_turnToNextDay_67 : decode cX0_turnToNextDay 67 = .ok (.bipush 42, 2) := by decide +kernel
theorem dX0_turnToNextDay_69 : decode cX0_turnToNextDay 69 = .ok (.if_icmp .ge 16, 3) := by decide +kernel
theorem dX0_turnToNextDay_72 : decode cX0_turnToNextDay 72 = .ok (.aload_n 0, 1) := by decide +kernel
theorem dX0_turnToNextDay_73 : decode cX0_turnToNextDay 73 = .ok (.getfield 11, 3) := by decide +kernel
theorem dX0_turnToNextDay_76 : decode cX0_turnToNextDay 76 = .ok (.iload_n 1, 1) := by decide +kernel
theorem dX0_turnToNextDay_77 : decode cX0_turnToNextDay 77 = .ok (.iconst 0, 1) := by decide +kernel
theorem dX0_turnToNextDay_78 : decode cX0_turnToNextDay 78 = .ok (.iastore, 1) := by decide +kernel
theorem dX0_turnToNextDay_79 : decode cX0_turnToNextDay 79 = .ok (.iinc 1 1, 3) := by decide +kernel
theorem dX0_turnToNextDay_82 : decode cX0_turnToNextDay 82 = .ok (.goto (-16), 3) := by decide +kernel
theorem dX0_turnToNextDay_85 : decode cX0_turnToNextDay 85 = .ok (.aload_n 0, 1) := by decide +kernel
theorem dX0_turnToNextDay_86 : decode cX0_turnToNextDay 86 = .ok (.getfield 18, 3) := by decide +kernel
theorem dX0_turnToNextDay_89 : decode cX0_turnToNextDay 89 = .ok (.iconst 0, 1) := by decide +kernel
theorem dX0_turnToNextDay_90 : decode cX0_turnToNextDay 90 = .ok (.lconst 0, 1) := by decide +kernel
theorem dX0_turnToNextDay_91 : decode cX0_turnToNextDay 91 = .ok (.lastore, 1) := by decide +kernel
theorem dX0_turnToNextDay_92 : decode cX0_turnToNextDay 92 = .ok (.return_, 1) := by decide +kernel
theorem dX1_init_0 : decode cX1_init 0 = .ok (.aload_n 0, 1) := by decide +kernel
theorem dX1_init_1 : decode cX1_init 1 = .ok (.invokespecial 1, 3) := by decide +kernel
theorem dX1_init_4 : decode cX1_init 4 = .ok (.aload_n 0, 1) := by decide +kernel
theorem dX1_init_5 : decode cX1_init 5 = .ok (.bipush 64, 2) := by decide +kernel
theorem dX1_init_7 : decode cX1_init 7 = .ok (.newarray .int, 2) := by decide +kernel
theorem dX1_init_9 : decode cX1_init 9 = .ok (.putfield 9, 3) := by decide +kernel
theorem dX1_init_12 : decode cX1_init 12 = .ok (.return_, 1) := by decide +kernel
theorem dX1_isFull_0 : decode cX1_isFull 0 = .ok (.aload_n 0, 1) := by decide +kernel
theorem dX1_isFull_1 : decode cX1_isFull 1 = .ok (.getfield 13, 3) := by decide +kernel
theorem dX1_isFull_4 : decode cX1_isFull 4 = .ok (.bipush 64, 2) := by decide +kernel
theorem dX1_isFull_6 : decode cX1_isFull 6 = .ok (.if_icmp .lt 7, 3) := by decide +kernel
theorem dX1_isFull_9 : decode cX1_isFull 9 = .ok (.iconst 1, 1) := by decide +kernel
theorem dX1_isFull_10 : decode cX1_isFull 10 = .ok (.goto 4, 3) := by decide +kernel
theorem dX1_isFull_13 : decode cX1_isFull 13 = .ok (.iconst 0, 1) := by decide +kernel
theorem dX1_isFull_14 : decode cX1_isFull 14 = .ok (.ireturn, 1) := by decide +kernel
theorem dX1_add_0 : decode cX1_add 0 = .ok (.aload_n 0, 1) := by decide +kernel
theorem dX1_add_1 : decode cX1_add 1 = .ok (.getfield 13, 3) := by decide +kernel
theorem dX1_add_4 : decode cX1_add 4 = .ok (.bipush 64, 2) := by decide +kernel
theorem dX1_add_6 : decode cX1_add 6 = .ok (.if_icmp .ge 23, 3) := by decide +kernel
theorem dX1_add_9 : decode cX1_add 9 = .ok (.aload_n 0, 1) := by decide +kernel
theorem dX1_add_10 : decode cX1_add 10 = .ok (.getfield 9, 3) := by decide +kernel
theorem dX1_add_13 : decode cX1_add 13 = .ok (.aload_n 0, 1) := by decide +kernel
theorem dX1_add_14 : decode cX1_add 14 = .ok (.getfield 13, 3) := by decide +kernel
theorem dX1_add_17 : decode cX1_add 17 = .ok (.iload_n 1, 1) := by decide +kernel
theorem dX1_add_18 : decode cX1_add 18 = .ok (.iastore, 1) := by decide +kernel
theorem dX1_add_19 : decode cX1_add 19 = .ok (.aload_n 0, 1) := by decide +kernel
theorem dX1_add_20 : decode cX1_add 20 = .ok (.dup, 1) := by decide +kernel
theorem dX1_add_21 : decode cX1_add 21 = .ok (.getfield 13, 3) := by decide +kernel
theorem dX1_add_24 : decode cX1_add 24 = .ok (.iconst 1, 1) := by decide +kernel
theorem dX1_add_25 : decode cX1_add 25 = .ok (.iadd, 1) := by decide +kernel
theorem dX1_add_26 : decode cX1_add 26 = .ok (.putfield 13, 3) := by decide +kernel
theorem dX1_add_29 : decode cX1_add 29 = .ok (.aload_n 0, 1) := by decide +kernel
theorem dX1_add_30 : decode cX1_add 30 = .ok (.getfield 13, 3) := by decide +kernel
theorem dX1_add_33 : decode cX1_add 33 = .ok (.ireturn, 1) := by decide +kernel
theorem dX1_forget_0 : decode cX1_forget 0 = .ok (.aload_n 0, 1) := by decide +kernel
theorem dX1_forget_1 : decode cX1_forget 1 = .ok (.iconst 0, 1) := by decide +kernel
theorem dX1_forget_2 : decode cX1_forget 2 = .ok (.putfield 13, 3) := by decide +kernel
theorem dX1_forget_5 : decode cX1_forget 5 = .ok (.return_, 1) := by decide +kernel
theorem dX1_isAt_0 : decode cX1_isAt 0 = .ok (.iload_n 2, 1) := by decide +kernel
theorem dX1_isAt_1 : decode cX1_isAt 1 = .ok (.ifCond .lt 25, 3) := by decide +kernel
theorem dX1_isAt_4 : decode cX1_isAt 4 = .ok (.iload_n 2, 1) := by decide +kernel
theorem dX1_isAt_5 : decode cX1_isAt 5 = .ok (.aload_n 0, 1) := by decide +kernel
theorem dX1_isAt_6 : decode cX1_isAt 6 = .ok (.getfield 13, 3) := by decide +kernel
theorem dX1_isAt_9 : decode cX1_isAt 9 = .ok (.if_icmp .ge 17, 3) := by decide +kernel
theorem dX1_isAt_12 : decode cX1_isAt 12 = .ok (.aload_n 0, 1) := by decide +kernel
theorem dX1_isAt_13 : decode cX1_isAt 13 = .ok (.getfield 9, 3) := by decide +kernel
theorem dX1_isAt_16 : decode cX1_isAt 16 = .ok (.iload_n 2, 1) := by decide +kernel
theorem dX1_isAt_17 : decode cX1_isAt 17 = .ok (.iaload, 1) := by decide +kernel
theorem dX1_isAt_18 : decode cX1_isAt 18 = .ok (.iload_n 1, 1) := by decide +kernel
theorem dX1_isAt_19 : decode cX1_isAt 19 = .ok (.if_icmp .ne 7, 3) := by decide +kernel
theorem dX1_isAt_22 : decode cX1_isAt 22 = .ok (.iconst 1, 1) := by decide +kernel
theorem dX1_isAt_23 : decode cX1_isAt 23 = .ok (.goto 4, 3) := by decide +kernel
theorem dX1_isAt_26 : decode cX1_isAt 26 = .ok (.iconst 0, 1) := by decide +kernel
theorem dX1_isAt_27 : decode cX1_isAt 27 = .ok (.ireturn, 1) := by decide +kernel
theorem dX1_isDigitAt_0 : decode cX1_isDigitAt 0 = .ok (.iload_n 1, 1) := by decide +kernel
theorem dX1_isDigitAt_1 : decode cX1_isDigitAt 1 = .ok (.ifCond .lt 37, 3) := by decide +kernel
theorem dX1_isDigitAt_4 : decode cX1_isDigitAt 4 = .ok (.iload_n 1, 1) := by decide +kernel
theorem dX1_isDigitAt_5 : decode cX1_isDigitAt 5 = .ok (.aload_n 0, 1) := by decide +kernel
theorem dX1_isDigitAt_6 : decode cX1_isDigitAt 6 = .ok (.getfield 13, 3) := by decide +kernel
theorem dX1_isDigitAt_9 : decode cX1_isDigitAt 9 = .ok (.if_icmp .ge 29, 3) := by decide +kernel
theorem dX1_isDigitAt_12 : decode cX1_isDigitAt 12 = .ok (.aload_n 0, 1) := by decide +kernel
theorem dX1_isDigitAt_13 : decode cX1_isDigitAt 13 = .ok (.getfield 9, 3) := by decide +kernel
theorem dX1_isDigitAt_16 : decode cX1_isDigitAt 16 = .ok (.iload_n 1, 1) := by decide +kernel
theorem dX1_isDigitAt_17 : decode cX1_isDigitAt 17 = .ok (.iaload, 1) := by decide +kernel
theorem dX1_isDigitAt_18 : decode cX1_isDigitAt 18 = .ok (.bipush 48, 2) := by decide +kernel
theorem dX1_isDigitAt_20 : decode cX1_isDigitAt 20 = .ok (.if_icmp .lt 18, 3) := by decide +kernel
theorem dX1_isDigitAt_23 : decode cX1_isDigitAt 23 = .ok (.aload_n 0, 1) := by decide +kernel
theorem dX1_isDigitAt_24 : decode cX1_isDigitAt 24 = .ok (.getfield 9, 3) := by decide +kernel
theorem dX1_isDigitAt_27 : decode cX1_isDigitAt 27 = .ok (.iload_n 1, 1) := by decide +kernel
theorem dX1_isDigitAt_28 : decode cX1_isDigitAt 28 = .ok (.iaload, 1) := by decide +kernel
theorem dX1_isDigitAt_29 : decode cX1_isDigitAt 29 = .ok (.bipush 57, 2) := by decide +kernel
theorem dX1_isDigitAt_31 : decode cX1_isDigitAt 31 = .ok (.if_icmp .gt 7, 3) := by decide +kernel
theorem dX1_isDigitAt_34 : decode cX1_isDigitAt 34 = .ok (.iconst 1, 1) := by decide +kernel
theorem dX1_isDigitAt_35 : decode cX1_isDigitAt 35 = .ok (.goto 4, 3) := by decide +kernel
theorem dX1_isDigitAt_38 : decode cX1_isDigitAt 38 = .ok (.iconst 0, 1) := by decide +kernel
theorem dX1_isDigitAt_39 : decode cX1_isDigitAt 39 = .ok (.ireturn, 1) := by decide +kernel
theorem dX1_digit_0 : decode cX1_digit 0 = .ok (.aload_n 0, 1) := by decide +kernel
theorem dX1_digit_1 : decode cX1_digit 1 = .ok (.iload_n 1, 1) := by decide +kernel
theorem dX1_digit_2 : decode cX1_digit 2 = .ok (.invokevirtual 17, 3) := by decide +kernel
theorem dX1_digit_5 : decode cX1_digit 5 = .ok (.ifCond .eq 15, 3) := by decide +kernel
theorem dX1_digit_8 : decode cX1_digit 8 = .ok (.aload_n 0, 1) := by decide +kernel
theorem dX1_digit_9 : decode cX1_digit 9 = .ok (.getfield 9, 3) := by decide +kernel
theorem dX1_digit_12 : decode cX1_digit 12 = .ok (.iload_n 1, 1) := by decide +kernel
theorem dX1_digit_13 : decode cX1_digit 13 = .ok (.iaload, 1) := by decide +kernel
theorem dX1_digit_14 : decode cX1_digit 14 = .ok (.bipush 48, 2) := by decide +kernel
theorem dX1_digit_16 : decode cX1_digit 16 = .ok (.isub, 1) := by decide +kernel
theorem dX1_digit_17 : decode cX1_digit 17 = .ok (.goto 4, 3) := by decide +kernel
theorem dX1_digit_20 : decode cX1_digit 20 = .ok (.iconst 0, 1) := by decide +kernel
theorem dX1_digit_21 : decode cX1_digit 21 = .ok (.ireturn, 1) := by decide +kernel
theorem dX1_number_0 : decode cX1_number 0 = .ok (.iconst 0, 1) := by decide +kernel
theorem dX1_number_1 : decode cX1_number 1 = .ok (.istore_n 2, 1) := by decide +kernel
theorem dX1_number_2 : decode cX1_number 2 = .ok (.iload_n 1, 1) := by decide +kernel
theorem dX1_number_3 : decode cX1_number 3 = .ok (.istore_n 3, 1) := by decide +kernel
theorem dX1_number_4 : decode cX1_number 4 = .ok (.iload_n 3, 1) := by decide +kernel
theorem dX1_number_5 : decode cX1_number 5 = .ok (.aload_n 0, 1) := by decide +kernel
theorem dX1_number_6 : decode cX1_number 6 = .ok (.getfield 13, 3) := by decide +kernel
theorem dX1_number_9 : decode cX1_number 9 = .ok (.if_icmp .ge 28, 3) := by decide +kernel
theorem dX1_number_12 : decode cX1_number 12 = .ok (.aload_n 0, 1) := by decide +kernel
theorem dX1_number_13 : decode cX1_number 13 = .ok (.iload_n 3, 1) := by decide +kernel
theorem dX1_number_14 : decode cX1_number 14 = .ok (.invokevirtual 17, 3) := by decide +kernel
theorem dX1_number_17 : decode cX1_number 17 = .ok (.ifCond .eq 20, 3) := by decide +kernel
theorem dX1_number_20 : decode cX1_number 20 = .ok (.iload_n 2, 1) := by decide +kernel
theorem dX1_number_21 : decode cX1_number 21 = .ok (.bipush 10, 2) := by decide +kernel
theorem dX1_number_23 : decode cX1_number 23 = .ok (.imul, 1) := by decide +kernel
theorem dX1_number_24 : decode cX1_number 24 = .ok (.aload_n 0, 1) := by decide +kernel
theorem dX1_number_25 : decode cX1_number 25 = .ok (.iload_n 3, 1) := by decide +kernel
theorem dX1_number_26 : decode cX1_number 26 = .ok (.invokevirtual 21, 3) := by decide +kernel
theorem dX1_number_29 : decode cX1_number 29 = .ok (.iadd, 1) := by decide +kernel
theorem dX1_number_30 : decode cX1_number 30 = .ok (.istore_n 2, 1) := by decide +kernel
theorem dX1_number_31 : decode cX1_number 31 = .ok (.iinc 3 1, 3) := by decide +kernel
theorem dX1_number_34 : decode cX1_number 34 = .ok (.goto (-30), 3) := by decide +kernel
theorem dX1_number_37 : decode cX1_number 37 = .ok (.iload_n 2, 1) := by decide +kernel
theorem dX1_number_38 : decode cX1_number 38 = .ok (.ireturn, 1) := by decide +kernel
theorem dX1_next_0 : decode cX1_next 0 = .ok (.iload_n 2, 1) := by decide +kernel
theorem dX1_next_1 : decode cX1_next 1 = .ok (.istore_n 3, 1) := by decide +kernel
theorem dX1_next_2 : decode cX1_next 2 = .ok (.iload_n 3, 1) := by decide +kernel
theorem dX1_next_3 : decode cX1_next 3 = .ok (.aload_n 0, 1) := by decide +kernel
theorem dX1_next_4 : decode cX1_next 4 = .ok (.getfield 13, 3) := by decide +kernel
theorem dX1_next_7 : decode cX1_next 7 = .ok (.if_icmp .ge 18, 3) := by decide +kernel
theorem dX1_next_10 : decode cX1_next 10 = .ok (.aload_n 0, 1) := by decide +kernel
theorem dX1_next_11 : decode cX1_next 11 = .ok (.iload_n 1, 1) := by decide +kernel
theorem dX1_next_12 : decode cX1_next 12 = .ok (.iload_n 3, 1) := by decide +kernel
theorem dX1_next_13 : decode cX1_next 13 = .ok (.invokevirtual 25, 3) := by decide +kernel
theorem dX1_next_16 : decode cX1_next 16 = .ok (.ifCond .ne 9, 3) := by decide +kernel
theorem dX1_next_19 : decode cX1_next 19 = .ok (.iinc 3 1, 3) := by decide +kernel
theorem dX1_next_22 : decode cX1_next 22 = .ok (.goto (-20), 3) := by decide +kernel
theorem dX1_next_25 : decode cX1_next 25 = .ok (.iload_n 3, 1) := by decide +kernel
theorem dX1_next_26 : decode cX1_next 26 = .ok (.ireturn, 1) := by decide +kernel
theorem dX1_firstUnfit_0 : decode cX1_firstUnfit 0 = .ok (.aload_n 0, 1) := by decide +kernel
theorem dX1_firstUnfit_1 : decode cX1_firstUnfit 1 = .ok (.iconst 0, 1) := by decide +kernel
theorem dX1_firstUnfit_2 : decode cX1_firstUnfit 2 = .ok (.putfield 29, 3) := by decide +kernel
theorem dX1_firstUnfit_5 : decode cX1_firstUnfit 5 = .ok (.aload_n 0, 1) := by decide +kernel
theorem dX1_firstUnfit_6 : decode cX1_firstUnfit 6 = .ok (.getfield 13, 3) := by decide +kernel
theorem dX1_firstUnfit_9 : decode cX1_firstUnfit 9 = .ok (.ifCond .le 7, 3) := by decide +kernel
theorem dX1_firstUnfit_12 : decode cX1_firstUnfit 12 = .ok (.iconst 1, 1) := by decide +kernel
theorem dX1_firstUnfit_13 : decode cX1_firstUnfit 13 = .ok (.goto 4, 3) := by decide +kernel
theorem dX1_firstUnfit_16 : decode cX1_firstUnfit 16 = .ok (.iconst 0, 1) := by decide +kernel
theorem dX1_firstUnfit_17 : decode cX1_firstUnfit 17 = .ok (.istore_n 1, 1) := by decide +kernel
theorem dX1_firstUnfit_18 : decode cX1_firstUnfit 18 = .ok (.iconst 0, 1) := by decide +kernel
theorem dX1_firstUnfit_19 : decode cX1_firstUnfit 19 = .ok (.istore_n 2, 1) := by decide +kernel
theorem dX1_firstUnfit_20 : decode cX1_firstUnfit 20 = .ok (.iload_n 2, 1) := by decide +kernel
theorem dX1_firstUnfit_21 : decode cX1_firstUnfit 21 = .ok (.bipush 64, 2) := by decide +kernel
theorem dX1_firstUnfit_23 : decode cX1_firstUnfit 23 = .ok (.if_icmp .ge 29, 3) := by decide +kernel
theorem dX1_firstUnfit_26 : decode cX1_firstUnfit 26 = .ok (.iload_n 1, 1) := by decide +kernel
theorem dX1_firstUnfit_27 : decode cX1_firstUnfit 27 = .ok (.ifCond .eq 25, 3) := by decide +kernel
theorem dX1_firstUnfit_30 : decode cX1_firstUnfit 30 = .ok (.aload_n 0, 1) := by decide +kernel
theorem dX1_firstUnfit_31 : decode cX1_firstUnfit 31 = .ok (.getfield 29, 3) := by decide +kernel
theorem dX1_firstUnfit_34 : decode cX1_firstUnfit 34 = .ok (.aload_n 0, 1) := by decide +kernel
theorem dX1_firstUnfit_35 : decode cX1_firstUnfit 35 = .ok (.getfield 13, 3) := by decide +kernel
theorem dX1_firstUnfit_38 : decode cX1_firstUnfit 38 = .ok (.if_icmp .ge 14, 3) := by decide +kernel
theorem dX1_firstUnfit_41 : decode cX1_firstUnfit 41 = .ok (.aload_n 0, 1) := by decide +kernel
theorem dX1_firstUnfit_42 : decode cX1_firstUnfit 42 = .ok (.invokevirtual 32, 3) := by decide +kernel
theorem dX1_firstUnfit_45 : decode cX1_firstUnfit 45 = .ok (.istore_n 1, 1) := by decide +kernel
theorem dX1_firstUnfit_46 : decode cX1_firstUnfit 46 = .ok (.iinc 2 1, 3) := by decide +kernel
theorem dX1_firstUnfit_49 : decode cX1_firstUnfit 49 = .ok (.goto (-29), 3) := by decide +kernel
theorem dX1_firstUnfit_52 : decode cX1_firstUnfit 52 = .ok (.iload_n 1, 1) := by decide +kernel
theorem dX1_firstUnfit_53 : decode cX1_firstUnfit 53 = .ok (.ifCond .eq 7, 3) := by decide +kernel
theorem dX1_firstUnfit_56 : decode cX1_firstUnfit 56 = .ok (.iconst (-1), 1) := by decide +kernel
theorem dX1_firstUnfit_57 : decode cX1_firstUnfit 57 = .ok (.goto 7, 3) := by decide +kernel
theorem dX1_firstUnfit_60 : decode cX1_firstUnfit 60 = .ok (.aload_n 0, 1) := by decide +kernel
theorem dX1_firstUnfit_61 : decode cX1_firstUnfit 61 = .ok (.getfield 29, 3) := by decide +kernel
theorem dX1_firstUnfit_64 : decode cX1_firstUnfit 64 = .ok (.ireturn, 1) := by decide +kernel
theorem dX1_passesStatement_0 : decode cX1_passesStatement 0 = .ok (.aload_n 0, 1) := by decide +kernel
theorem dX1_passesStatement_1 : decode cX1_passesStatement 1 = .ok (.bipush 108, 2) := by decide +kernel
theorem dX1_passesStatement_3 : decode cX1_passesStatement 3 = .ok (.invokevirtual 36, 3) := by decide +kernel
theorem dX1_passesStatement_6 : decode cX1_passesStatement 6 = .ok (.ifCond .eq 27, 3) := by decide +kernel
theorem dX1_passesStatement_9 : decode cX1_passesStatement 9 = .ok (.aload_n 0, 1) := by decide +kernel
theorem dX1_passesStatement_10 : decode cX1_passesStatement 10 = .ok (.iconst 3, 1) := by decide +kernel
theorem dX1_passesStatement_11 : decode cX1_passesStatement 11 = .ok (.iconst 3, 1) := by decide +kernel
theorem dX1_passesStatement_12 : decode cX1_passesStatement 12 = .ok (.invokevirtual 39, 3) := by decide +kernel
theorem dX1_passesStatement_15 : decode cX1_passesStatement 15 = .ok (.ifCond .eq 16, 3) := by decide +kernel
theorem dX1_passesStatement_18 : decode cX1_passesStatement 18 = .ok (.aload_n 0, 1) := by decide +kernel
theorem dX1_passesStatement_19 : decode cX1_passesStatement 19 = .ok (.bipush 59, 2) := by decide +kernel
theorem dX1_passesStatement_21 : decode cX1_passesStatement 21 = .ok (.invokevirtual 36, 3) := by decide +kernel
theorem dX1_passesStatement_24 : decode cX1_passesStatement 24 = .ok (.ifCond .eq 7, 3) := by decide +kernel
theorem dX1_passesStatement_27 : decode cX1_passesStatement 27 = .ok (.iconst 1, 1) := by decide +kernel
theorem dX1_passesStatement_28 : decode cX1_passesStatement 28 = .ok (.goto 4, 3) := by decide +kernel
theorem dX1_passesStatement_31 : decode cX1_passesStatement 31 = .ok (.iconst 0, 1) := by decide +kernel
theorem dX1_passesStatement_32 : decode cX1_passesStatement 32 = .ok (.ireturn, 1) := by decide +kernel
theorem dX1_passesStatement_33 : decode cX1_passesStatement 33 = .ok (.aload_n 0, 1) := by decide +kernel
theorem dX1_passesStatement_34 : decode cX1_passesStatement 34 = .ok (.bipush 112, 2) := by decide +kernel
theorem dX1_passesStatement_36 : decode cX1_passesStatement 36 = .ok (.invokevirtual 36, 3) := by decide +kernel
theorem dX1_passesStatement_39 : decode cX1_passesStatement 39 = .ok (.ifCond .eq 44, 3) := by decide +kernel
theorem dX1_passesStatement_42 : decode cX1_passesStatement 42 = .ok (.aload_n 0, 1) := by decide +kernel
theorem dX1_passesStatement_43 : decode cX1_passesStatement 43 = .ok (.iconst 4, 1) := by decide +kernel
theorem dX1_passesStatement_44 : decode cX1_passesStatement 44 = .ok (.bipush 7, 2) := by decide +kernel
theorem dX1_passesStatement_46 : decode cX1_passesStatement 46 = .ok (.invokevirtual 39, 3) := by decide +kernel
theorem dX1_passesStatement_49 : decode cX1_passesStatement 49 = .ok (.ifCond .eq 34, 3) := by decide +kernel
theorem dX1_passesStatement_52 : decode cX1_passesStatement 52 = .ok (.aload_n 0, 1) := by decide +kernel
theorem dX1_passesStatement_53 : decode cX1_passesStatement 53 = .ok (.bipush 44, 2) := by decide +kernel
theorem dX1_passesStatement_55 : decode cX1_passesStatement 55 = .ok (.invokevirtual 36, 3) := by decide +kernel
theorem dX1_passesStatement_58 : decode cX1_passesStatement 58 = .ok (.ifCond .eq 25, 3) := by decide +kernel
theorem dX1_passesStatement_61 : decode cX1_passesStatement 61 = .ok (.aload_n 0, 1) := by decide +kernel
theorem dX1_passesStatement_62 : decode cX1_passesStatement 62 = .ok (.iconst 1, 1) := by decide +kernel
theorem dX1_passesStatement_63 : decode cX1_passesStatement 63 = .ok (.iconst 2, 1) := by decide +kernel
theorem dX1_passesStatement_64 : decode cX1_passesStatement 64 = .ok (.invokevirtual 39, 3) := by decide +kernel
theorem dX1_passesStatement_67 : decode cX1_passesStatement 67 = .ok (.ifCond .eq 16, 3) := by decide +kernel
theorem dX1_passesStatement_70 : decode cX1_passesStatement 70 = .ok (.aload_n 0, 1) := by decide +kernel
theorem dX1_passesStatement_71 : decode cX1_passesStatement 71 = .ok (.bipush 59, 2) := by decide +kernel
theorem dX1_passesStatement_73 : decode cX1_passesStatement 73 = .ok (.invokevirtual 36, 3) := by decide +kernel
theorem dX1_passesStatement_76 : decode cX1_passesStatement 76 = .ok (.ifCond .eq 7, 3) := by decide +kernel
theorem dX1_passesStatement_79 : decode cX1_passesStatement 79 = .ok (.iconst 1, 1) := by decide +kernel
theorem dX1_passesStatement_80 : decode cX1_passesStatement 80 = .ok (.goto 4, 3) := by decide +kernel
theorem dX1_passesStatement_83 : decode cX1_passesStatement 83 = .ok (.iconst 0, 1) := by decide +kernel
theorem dX1_passesStatement_84 : decode cX1_passesStatement 84 = .ok (.ireturn, 1) := by decide +kernel
theorem dX1_passes_0 : decode cX1_passes 0 = .ok (.aload_n 0, 1) := by decide +kernel
theorem dX1_passes_1 : decode cX1_passes 1 = .ok (.iload_n 1, 1) := by decide +kernel
theorem dX1_passes_2 : decode cX1_passes 2 = .ok (.aload_n 0, 1) := by decide +kernel
theorem dX1_passes_3 : decode cX1_passes 3 = .ok (.getfield 29, 3) := by decide +kernel
theorem dX1_passes_6 : decode cX1_passes 6 = .ok (.invokevirtual 25, 3) := by decide +kernel
theorem dX1_passes_9 : decode cX1_passes 9 = .ok (.ifCond .ne 5, 3) := by decide +kernel
theorem dX1_passes_12 : decode cX1_passes 12 = .ok (.iconst 0, 1) := by decide +kernel
theorem dX1_passes_13 : decode cX1_passes 13 = .ok (.ireturn, 1) := by decide +kernel
theorem dX1_passes_14 : decode cX1_passes 14 = .ok (.aload_n 0, 1) := by decide +kernel
theorem dX1_passes_15 : decode cX1_passes 15 = .ok (.dup, 1) := by decide +kernel
theorem dX1_passes_16 : decode cX1_passes 16 = .ok (.getfield 29, 3) := by decide +kernel
theorem dX1_passes_19 : decode cX1_passes 19 = .ok (.iconst 1, 1) := by decide +kernel
theorem dX1_passes_20 : decode cX1_passes 20 = .ok (.iadd, 1) := by decide +kernel
theorem dX1_passes_21 : decode cX1_passes 21 = .ok (.putfield 29, 3) := by decide +kernel
theorem dX1_passes_24 : decode cX1_passes 24 = .ok (.iconst 1, 1) := by decide +kernel
theorem dX1_passes_25 : decode cX1_passes 25 = .ok (.ireturn, 1) := by decide +kernel
theorem dX1_passesDigits_0 : decode cX1_passesDigits 0 = .ok (.iconst 0, 1) := by decide +kernel
theorem dX1_passesDigits_1 : decode cX1_passesDigits 1 = .ok (.istore_n 3, 1) := by decide +kernel
theorem dX1_passesDigits_2 : decode cX1_passesDigits 2 = .ok (.iload_n 3, 1) := by decide +kernel
theorem dX1_passesDigits_3 : decode cX1_passesDigits 3 = .ok (.iload_n 2, 1) := by decide +kernel
theorem dX1_passesDigits_4 : decode cX1_passesDigits 4 = .ok (.if_icmp .ge 30, 3) := by decide +kernel
theorem dX1_passesDigits_7 : decode cX1_passesDigits 7 = .ok (.aload_n 0, 1) := by decide +kernel
theorem dX1_passesDigits_8 : decode cX1_passesDigits 8 = .ok (.aload_n 0, 1) := by decide +kernel
theorem dX1_passesDigits_9 : decode cX1_passesDigits 9 = .ok (.getfield 29, 3) := by decide +kernel
theorem dX1_passesDigits_12 : decode cX1_passesDigits 12 = .ok (.invokevirtual 17, 3) := by decide +kernel
theorem dX1_passesDigits_15 : decode cX1_passesDigits 15 = .ok (.ifCond .eq 19, 3) := by decide +kernel
theorem dX1_passesDigits_18 : decode cX1_passesDigits 18 = .ok (.aload_n 0, 1) := by decide +kernel
theorem dX1_passesDigits_19 : decode cX1_passesDigits 19 = .ok (.dup, 1) := by decide +kernel
theorem dX1_passesDigits_20 : decode cX1_passesDigits 20 = .ok (.getfield 29, 3) := by decide +kernel
theorem dX1_passesDigits_23 : decode cX1_passesDigits 23 = .ok (.iconst 1, 1) := by decide +kernel
theorem dX1_passesDigits_24 : decode cX1_passesDigits 24 = .ok (.iadd, 1) := by decide +kernel
theorem dX1_passesDigits_25 : decode cX1_passesDigits 25 = .ok (.putfield 29, 3) := by decide +kernel
theorem dX1_passesDigits_28 : decode cX1_passesDigits 28 = .ok (.iinc 3 1, 3) := by decide +kernel
theorem dX1_passesDigits_31 : decode cX1_passesDigits 31 = .ok (.goto (-29), 3) := by decide +kernel
theorem dX1_passesDigits_34 : decode cX1_passesDigits 34 = .ok (.iload_n 3, 1) := by decide +kernel
theorem dX1_passesDigits_35 : decode cX1_passesDigits 35 = .ok (.iload_n 1, 1) := by decide +kernel
theorem dX1_passesDigits_36 : decode cX1_passesDigits 36 = .ok (.if_icmp .lt 7, 3) := by decide +kernel
theorem dX1_passesDigits_39 : decode cX1_passesDigits 39 = .ok (.iconst 1, 1) := by decide +kernel
theorem dX1_passesDigits_40 : decode cX1_passesDigits 40 = .ok (.goto 4, 3) := by decide +kernel
theorem dX1_passesDigits_43 : decode cX1_passesDigits 43 = .ok (.iconst 0, 1) := by decide +kernel
theorem dX1_passesDigits_44 : decode cX1_passesDigits 44 = .ok (.ireturn, 1) := by decide +kernel
theorem dX2_init_0 : decode cX2_init 0 = .ok (.aload_n 0, 1) := by decide +kernel
theorem dX2_init_1 : decode cX2_init 1 = .ok (.invokespecial 3, 3) := by decide +kernel
theorem dX2_init_4 : decode cX2_init 4 = .ok (.aload_n 0, 1) := by decide +kernel
theorem dX2_init_5 : decode cX2_init 5 = .ok (.bipush 7, 2) := by decide +kernel
theorem dX2_init_7 : decode cX2_init 7 = .ok (.anewarray 9, 3) := by decide +kernel
theorem dX2_init_10 : decode cX2_init 10 = .ok (.putfield 11, 3) := by decide +kernel
theorem dX2_init_13 : decode cX2_init 13 = .ok (.aload_n 0, 1) := by decide +kernel
theorem dX2_init_14 : decode cX2_init 14 = .ok (.bipush 6, 2) := by decide +kernel
theorem dX2_init_16 : decode cX2_init 16 = .ok (.newarray .int, 2) := by decide +kernel
theorem dX2_init_18 : decode cX2_init 18 = .ok (.putfield 17, 3) := by decide +kernel
theorem dX2_init_21 : decode cX2_init 21 = .ok (.aload_n 0, 1) := by decide +kernel
theorem dX2_init_22 : decode cX2_init 22 = .ok (.bipush 6, 2) := by decide +kernel
theorem dX2_init_24 : decode cX2_init 24 = .ok (.newarray .int, 2) := by decide +kernel
theorem dX2_init_26 : decode cX2_init 26 = .ok (.putfield 21, 3) := by decide +kernel
theorem dX2_init_29 : decode cX2_init 29 = .ok (.iconst 0, 1) := by decide +kernel
theorem dX2_init_30 : decode cX2_init 30 = .ok (.istore_n 1, 1) := by decide +kernel
theorem dX2_init_31 : decode cX2_init 31 = .ok (.iload_n 1, 1) := by decide +kernel
theorem dX2_init_32 : decode cX2_init 32 = .ok (.aload_n 0, 1) := by decide +kernel
theorem dX2_init_33 : decode cX2_init 33 = .ok (.getfield 11, 3) := by decide +kernel
theorem dX2_init_36 : decode cX2_init 36 = .ok (.arraylength, 1) := by decide +kernel
theorem dX2_init_37 : decode cX2_init 37 = .ok (.if_icmp .ge 22, 3) := by decide +kernel
theorem dX2_init_40 : decode cX2_init 40 = .ok (.aload_n 0, 1) := by decide +kernel
theorem dX2_init_41 : decode cX2_init 41 = .ok (.getfield 11, 3) := by decide +kernel
theorem dX2_init_44 : decode cX2_init 44 = .ok (.iload_n 1, 1) := by decide +kernel
theorem dX2_init_45 : decode cX2_init 45 = .ok (.new 9, 3) := by decide +kernel
theorem dX2_init_48 : decode cX2_init 48 = .ok (.dup, 1) := by decide +kernel
theorem dX2_init_49 : decode cX2_init 49 = .ok (.invokespecial 24, 3) := by decide +kernel
theorem dX2_init_52 : decode cX2_init 52 = .ok (.aastore, 1) := by decide +kernel
theorem dX2_init_53 : decode cX2_init 53 = .ok (.iinc 1 1, 3) := by decide +kernel
theorem dX2_init_56 : decode cX2_init 56 = .ok (.goto (-25), 3) := by decide +kernel
theorem dX2_init_59 : decode cX2_init 59 = .ok (.return_, 1) := by decide +kernel
theorem dX2_run_0 : decode cX2_run 0 = .ok (.aload_n 0, 1) := by decide +kernel
theorem dX2_run_1 : decode cX2_run 1 = .ok (.iload_n 2, 1) := by decide +kernel
theorem dX2_run_2 : decode cX2_run 2 = .ok (.putfield 25, 3) := by decide +kernel
theorem dX2_run_5 : decode cX2_run 5 = .ok (.aload_n 0, 1) := by decide +kernel
theorem dX2_run_6 : decode cX2_run 6 = .ok (.iload_n 3, 1) := by decide +kernel
theorem dX2_run_7 : decode cX2_run 7 = .ok (.bipush 6, 2) := by decide +kernel
theorem dX2_run_9 : decode cX2_run 9 = .ok (.invokestatic 29, 3) := by decide +kernel
theorem dX2_run_12 : decode cX2_run 12 = .ok (.putfield 35, 3) := by decide +kernel
theorem dX2_run_15 : decode cX2_run 15 = .ok (.aload_n 0, 1) := by decide +kernel
theorem dX2_run_16 : decode cX2_run 16 = .ok (.iload 4, 2) := by decide +kernel
theorem dX2_run_18 : decode cX2_run 18 = .ok (.putfield 38, 3) := by decide +kernel
theorem dX2_run_21 : decode cX2_run 21 = .ok (.aload_n 0, 1) := by decide +kernel
theorem dX2_run_22 : decode cX2_run 22 = .ok (.bipush (-9), 2) := by decide +kernel
theorem dX2_run_24 : decode cX2_run 24 = .ok (.putfield 41, 3) := by decide +kernel
theorem dX2_run_27 : decode cX2_run 27 = .ok (.aload_n 0, 1) := by decide +kernel
theorem dX2_run_28 : decode cX2_run 28 = .ok (.bipush (-9), 2) := by decide +kernel
theorem dX2_run_30 : decode cX2_run 30 = .ok (.putfield 44, 3) := by decide +kernel
theorem dX2_run_33 : decode cX2_run 33 = .ok (.aload_n 0, 1) := by decide +kernel
theorem dX2_run_34 : decode cX2_run 34 = .ok (.getfield 11, 3) := by decide +kernel
theorem dX2_run_37 : decode cX2_run 37 = .ok (.iconst 0, 1) := by decide +kernel
theorem dX2_run_38 : decode cX2_run 38 = .ok (.aaload, 1) := by decide +kernel
theorem dX2_run_39 : decode cX2_run 39 = .ok (.aload_n 1, 1) := by decide +kernel
theorem dX2_run_40 : decode cX2_run 40 = .ok (.invokevirtual 47, 3) := by decide +kernel
theorem dX2_run_43 : decode cX2_run 43 = .ok (.aload_n 0, 1) := by decide +kernel
theorem dX2_run_44 : decode cX2_run 44 = .ok (.iconst 0, 1) := by decide +kernel
theorem dX2_run_45 : decode cX2_run 45 = .ok (.iconst 0, 1) := by decide +kernel
theorem dX2_run_46 : decode cX2_run 46 = .ok (.invokestatic 51, 3) := by decide +kernel
theorem dX2_run_49 : decode cX2_run 49 = .ok (.return_, 1) := by decide +kernel
theorem dX2_explore_0 : decode cX2_explore 0 = .ok (.iload_n 1, 1) := by decide +kernel
theorem dX2_explore_1 : decode cX2_explore 1 = .ok (.aload_n 0, 1) := by decide +kernel
theorem dX2_explore_2 : decode cX2_explore 2 = .ok (.getfield 35, 3) := by decide +kernel
theorem dX2_explore_5 : decode cX2_explore 5 = .ok (.if_icmp .lt 9, 3) := by decide +kernel
theorem dX2_explore_8 : decode cX2_explore 8 = .ok (.aload_n 0, 1) := by decide +kernel
theorem dX2_explore_9 : decode cX2_explore 9 = .ok (.iload_n 2, 1) := by decide +kernel
theorem dX2_explore_10 : decode cX2_explore 10 = .ok (.invokevirtual 55, 3) := by decide +kernel
theorem dX2_explore_13 : decode cX2_explore 13 = .ok (.return_, 1) := by decide +kernel
theorem dX2_explore_14 : decode cX2_explore 14 = .ok (.aload_n 0, 1) := by decide +kernel
theorem dX2_explore_15 : decode cX2_explore 15 = .ok (.getfield 11, 3) := by decide +kernel
theorem dX2_explore_18 : decode cX2_explore 18 = .ok (.iload_n 1, 1) := by decide +kernel
theorem dX2_explore_19 : decode cX2_explore 19 = .ok (.aaload, 1) := by decide +kernel
theorem dX2_explore_20 : decode cX2_explore 20 = .ok (.astore_n 3, 1) := by decide +kernel
theorem dX2_explore_21 : decode cX2_explore 21 = .ok (.aload_n 3, 1) := by decide +kernel
theorem dX2_explore_22 : decode cX2_explore 22 = .ok (.getfield 59, 3) := by decide +kernel
theorem dX2_explore_25 : decode cX2_explore 25 = .ok (.aload_n 0, 1) := by decide +kernel
theorem dX2_explore_26 : decode cX2_explore 26 = .ok (.getfield 25, 3) := by decide +kernel
theorem dX2_explore_29 : decode cX2_explore 29 = .ok (.iaload, 1) := by decide +kernel
theorem dX2_explore_30 : decode cX2_explore 30 = .ok (.istore 4, 2) := by decide +kernel
theorem dX2_explore_32 : decode cX2_explore 32 = .ok (.iconst 0, 1) := by decide +kernel
theorem dX2_explore_33 : decode cX2_explore 33 = .ok (.istore 5, 2) := by decide +kernel
theorem dX2_explore_35 : decode cX2_explore 35 = .ok (.iload 5, 2) := by decide +kernel
theorem dX2_explore_37 : decode cX2_explore 37 = .ok (.iconst 2, 1) := by decide +kernel
theorem dX2_explore_38 : decode cX2_explore 38 = .ok (.if_icmp .gt 77, 3) := by decide +kernel
theorem dX2_explore_41 : decode cX2_explore 41 = .ok (.iload 4, 2) := by decide +kernel
theorem dX2_explore_43 : decode cX2_explore 43 = .ok (.iload 5, 2) := by decide +kernel
theorem dX2_explore_45 : decode cX2_explore 45 = .ok (.imul, 1) := by decide +kernel
theorem dX2_explore_46 : decode cX2_explore 46 = .ok (.iconst 2, 1) := by decide +kernel
theorem dX2_explore_47 : decode cX2_explore 47 = .ok (.idiv, 1) := by decide +kernel
theorem dX2_explore_48 : decode cX2_explore 48 = .ok (.istore 6, 2) := by decide +kernel
theorem dX2_explore_50 : decode cX2_explore 50 = .ok (.iload 5, 2) := by decide +kernel
theorem dX2_explore_52 : decode cX2_explore 52 = .ok (.ifCond .le 11, 3) := by decide +kernel
theorem dX2_explore_55 : decode cX2_explore 55 = .ok (.iload 6, 2) := by decide +kernel
theorem dX2_explore_57 : decode cX2_explore 57 = .ok (.ifCond .ne 6, 3) := by decide +kernel
theorem dX2_explore_60 : decode cX2_explore 60 = .ok (.goto 49, 3) := by decide +kernel
theorem dX2_explore_63 : decode cX2_explore 63 = .ok (.aload_n 0, 1) := by decide +kernel
theorem dX2_explore_64 : decode cX2_explore 64 = .ok (.getfield 17, 3) := by decide +kernel
theorem dX2_explore_67 : decode cX2_explore 67 = .ok (.iload_n 1, 1) := by decide +kernel
theorem dX2_explore_68 : decode cX2_explore 68 = .ok (.iload 5, 2) := by decide +kernel
theorem dX2_explore_70 : decode cX2_explore 70 = .ok (.iastore, 1) := by decide +kernel
theorem dX2_explore_71 : decode cX2_explore 71 = .ok (.aload_n 0, 1) := by decide +kernel
theorem dX2_explore_72 : decode cX2_explore 72 = .ok (.getfield 11, 3) := by decide +kernel
theorem dX2_explore_75 : decode cX2_explore 75 = .ok (.iload_n 1, 1) := by decide +kernel
theorem dX2_explore_76 : decode cX2_explore 76 = .ok (.iconst 1, 1) := by decide +kernel
theorem dX2_explore_77 : decode cX2_explore 77 = .ok (.iadd, 1) := by decide +kernel
theorem dX2_explore_78 : decode cX2_explore 78 = .ok (.aaload, 1) := by decide +kernel
theorem dX2_explore_79 : decode cX2_explore 79 = .ok (.astore 7, 2) := by decide +kernel
theorem dX2_explore_81 : decode cX2_explore 81 = .ok (.aload 7, 2) := by decide +kernel
theorem dX2_explore_83 : decode cX2_explore 83 = .ok (.aload_n 3, 1) := by decide +kernel
theorem dX2_explore_84 : decode cX2_explore 84 = .ok (.invokevirtual 47, 3) := by decide +kernel
theorem dX2_explore_87 : decode cX2_explore 87 = .ok (.aload 7, 2) := by decide +kernel
theorem dX2_explore_89 : decode cX2_explore 89 = .ok (.aload_n 0, 1) := by decide +kernel
theorem dX2_explore_90 : decode cX2_explore 90 = .ok (.getfield 25, 3) := by decide +kernel
theorem dX2_explore_93 : decode cX2_explore 93 = .ok (.iload 6, 2) := by decide +kernel
theorem dX2_explore_95 : decode cX2_explore 95 = .ok (.invokevirtual 62, 3) := by decide +kernel
theorem dX2_explore_98 : decode cX2_explore 98 = .ok (.aload_n 0, 1) := by decide +kernel
theorem dX2_explore_99 : decode cX2_explore 99 = .ok (.iload_n 1, 1) := by decide +kernel
theorem dX2_explore_100 : decode cX2_explore 100 = .ok (.iconst 1, 1) := by decide +kernel
theorem dX2_explore_101 : decode cX2_explore 101 = .ok (.iadd, 1) := by decide +kernel
theorem dX2_explore_102 : decode cX2_explore 102 = .ok (.iload_n 2, 1) := by decide +kernel
theorem dX2_explore_103 : decode cX2_explore 103 = .ok (.iload 6, 2) := by decide +kernel
theorem dX2_explore_105 : decode cX2_explore 105 = .ok (.iadd, 1) := by decide +kernel
theorem dX2_explore_106 : decode cX2_explore 106 = .ok (.invokestatic 51, 3) := by decide +kernel
theorem dX2_explore_109 : decode cX2_explore 109 = .ok (.iinc 5 1, 3) := by decide +kernel
theorem dX2_explore_112 : decode cX2_explore 112 = .ok (.goto (-77), 3) := by decide +kernel
theorem dX2_explore_115 : decode cX2_explore 115 = .ok (.return_, 1) := by decide +kernel
theorem dX2_look_0 : decode cX2_look 0 = .ok (.aload_n 0, 1) := by decide +kernel
theorem dX2_look_1 : decode cX2_look 1 = .ok (.getfield 11, 3) := by decide +kernel
theorem dX2_look_4 : decode cX2_look 4 = .ok (.aload_n 0, 1) := by decide +kernel
theorem dX2_look_5 : decode cX2_look 5 = .ok (.getfield 35, 3) := by decide +kernel
theorem dX2_look_8 : decode cX2_look 8 = .ok (.aaload, 1) := by decide +kernel
theorem dX2_look_9 : decode cX2_look 9 = .ok (.getfield 59, 3) := by decide +kernel
theorem dX2_look_12 : decode cX2_look 12 = .ok (.aload_n 0, 1) := by decide +kernel
theorem dX2_look_13 : decode cX2_look 13 = .ok (.getfield 25, 3) := by decide +kernel
theorem dX2_look_16 : decode cX2_look 16 = .ok (.iaload, 1) := by decide +kernel
theorem dX2_look_17 : decode cX2_look 17 = .ok (.istore_n 2, 1) := by decide +kernel
theorem dX2_look_18 : decode cX2_look 18 = .ok (.iload_n 2, 1) := by decide +kernel
theorem dX2_look_19 : decode cX2_look 19 = .ok (.aload_n 0, 1) := by decide +kernel
theorem dX2_look_20 : decode cX2_look 20 = .ok (.getfield 41, 3) := by decide +kernel
theorem dX2_look_23 : decode cX2_look 23 = .ok (.if_icmp .le 25, 3) := by decide +kernel
theorem dX2_look_26 : decode cX2_look 26 = .ok (.aload_n 0, 1) := by decide +kernel
theorem dX2_look_27 : decode cX2_look 27 = .ok (.iload_n 2, 1) := by decide +kernel
theorem dX2_look_28 : decode cX2_look 28 = .ok (.putfield 41, 3) := by decide +kernel
theorem dX2_look_31 : decode cX2_look 31 = .ok (.aload_n 0, 1) := by decide +kernel
theorem dX2_look_32 : decode cX2_look 32 = .ok (.getfield 17, 3) := by decide +kernel
theorem dX2_look_35 : decode cX2_look 35 = .ok (.iconst 0, 1) := by decide +kernel
theorem dX2_look_36 : decode cX2_look 36 = .ok (.aload_n 0, 1) := by decide +kernel
theorem dX2_look_37 : decode cX2_look 37 = .ok (.getfield 21, 3) := by decide +kernel
theorem dX2_look_40 : decode cX2_look 40 = .ok (.iconst 0, 1) := by decide +kernel
theorem dX2_look_41 : decode cX2_look 41 = .ok (.aload_n 0, 1) := by decide +kernel
theorem dX2_look_42 : decode cX2_look 42 = .ok (.getfield 35, 3) := by decide +kernel
theorem dX2_look_45 : decode cX2_look 45 = .ok (.invokestatic 66, 3) := by decide +kernel
theorem dX2_look_48 : decode cX2_look 48 = .ok (.iload_n 2, 1) := by decide +kernel
theorem dX2_look_49 : decode cX2_look 49 = .ok (.aload_n 0, 1) := by decide +kernel
theorem dX2_look_50 : decode cX2_look 50 = .ok (.getfield 38, 3) := by decide +kernel
theorem dX2_look_53 : decode cX2_look 53 = .ok (.if_icmp .lt 25, 3) := by decide +kernel
theorem dX2_look_56 : decode cX2_look 56 = .ok (.aload_n 0, 1) := by decide +kernel
theorem dX2_look_57 : decode cX2_look 57 = .ok (.getfield 44, 3) := by decide +kernel
theorem dX2_look_60 : decode cX2_look 60 = .ok (.bipush (-9), 2) := by decide +kernel
theorem dX2_look_62 : decode cX2_look 62 = .ok (.if_icmp .eq 11, 3) := by decide +kernel
theorem dX2_look_65 : decode cX2_look 65 = .ok (.iload_n 1, 1) := by decide +kernel
theorem dX2_look_66 : decode cX2_look 66 = .ok (.aload_n 0, 1) := by decide +kernel
theorem dX2_look_67 : decode cX2_look 67 = .ok (.getfield 44, 3) := by decide +kernel
theorem dX2_look_70 : decode cX2_look 70 = .ok (.if_icmp .ge 8, 3) := by decide +kernel
theorem dX2_look_73 : decode cX2_look 73 = .ok (.aload_n 0, 1) := by decide +kernel
theorem dX2_look_74 : decode cX2_look 74 = .ok (.iload_n 1, 1) := by decide +kernel
theorem dX2_look_75 : decode cX2_look 75 = .ok (.putfield 44, 3) := by decide +kernel
theorem dX2_look_78 : decode cX2_look 78 = .ok (.return_, 1) := by decide +kernel
theorem dX3_init_0 : decode cX3_init 0 = .ok (.aload_n 0, 1) := by decide +kernel
theorem dX3_init_1 : decode cX3_init 1 = .ok (.invokespecial 3, 3) := by decide +kernel
theorem dX3_init_4 : decode cX3_init 4 = .ok (.aload_n 0, 1) := by decide +kernel
theorem dX3_init_5 : decode cX3_init 5 = .ok (.bipush 6, 2) := by decide +kernel
theorem dX3_init_7 : decode cX3_init 7 = .ok (.newarray .int, 2) := by decide +kernel
theorem dX3_init_9 : decode cX3_init 9 = .ok (.putfield 9, 3) := by decide +kernel
theorem dX3_init_12 : decode cX3_init 12 = .ok (.aload_n 0, 1) := by decide +kernel
theorem dX3_init_13 : decode cX3_init 13 = .ok (.bipush 6, 2) := by decide +kernel
theorem dX3_init_15 : decode cX3_init 15 = .ok (.newarray .int, 2) := by decide +kernel
theorem dX3_init_17 : decode cX3_init 17 = .ok (.putfield 15, 3) := by decide +kernel
theorem dX3_init_20 : decode cX3_init 20 = .ok (.aload_n 0, 1) := by decide +kernel
theorem dX3_init_21 : decode cX3_init 21 = .ok (.bipush 6, 2) := by decide +kernel
theorem dX3_init_23 : decode cX3_init 23 = .ok (.newarray .int, 2) := by decide +kernel
theorem dX3_init_25 : decode cX3_init 25 = .ok (.putfield 18, 3) := by decide +kernel
theorem dX3_init_28 : decode cX3_init 28 = .ok (.aload_n 0, 1) := by decide +kernel
theorem dX3_init_29 : decode cX3_init 29 = .ok (.bipush 6, 2) := by decide +kernel
theorem dX3_init_31 : decode cX3_init 31 = .ok (.newarray .int, 2) := by decide +kernel
theorem dX3_init_33 : decode cX3_init 33 = .ok (.putfield 21, 3) := by decide +kernel
theorem dX3_init_36 : decode cX3_init 36 = .ok (.aload_n 0, 1) := by decide +kernel
theorem dX3_init_37 : decode cX3_init 37 = .ok (.bipush 6, 2) := by decide +kernel
theorem dX3_init_39 : decode cX3_init 39 = .ok (.newarray .int, 2) := by decide +kernel
theorem dX3_init_41 : decode cX3_init 41 = .ok (.putfield 24, 3) := by decide +kernel
theorem dX3_init_44 : decode cX3_init 44 = .ok (.aload_n 0, 1) := by decide +kernel
theorem dX3_init_45 : decode cX3_init 45 = .ok (.iconst 4, 1) := by decide +kernel
theorem dX3_init_46 : decode cX3_init 46 = .ok (.newarray .int, 2) := by decide +kernel
theorem dX3_init_48 : decode cX3_init 48 = .ok (.dup, 1) := by decide +kernel
theorem dX3_init_49 : decode cX3_init 49 = .ok (.iconst 0, 1) := by decide +kernel
theorem dX3_init_50 : decode cX3_init 50 = .ok (.iconst 0, 1) := by decide +kernel
theorem dX3_init_51 : decode cX3_init 51 = .ok (.iastore, 1) := by decide +kernel
theorem dX3_init_52 : decode cX3_init 52 = .ok (.dup, 1) := by decide +kernel
theorem dX3_init_53 : decode cX3_init 53 = .ok (.iconst 1, 1) := by decide +kernel
theorem dX3_init_54 : decode cX3_init 54 = .ok (.iconst 3, 1) := by decide +kernel
theorem dX3_init_55 : decode cX3_init 55 = .ok (.iastore, 1) := by decide +kernel
theorem dX3_init_56 : decode cX3_init 56 = .ok (.dup, 1) := by decide +kernel
theorem dX3_init_57 : decode cX3_init 57 = .ok (.iconst 2, 1) := by decide +kernel
theorem dX3_init_58 : decode cX3_init 58 = .ok (.iconst 0, 1) := by decide +kernel
theorem dX3_init_59 : decode cX3_init 59 = .ok (.iastore, 1) := by decide +kernel
theorem dX3_init_60 : decode cX3_init 60 = .ok (.dup, 1) := by decide +kernel
theorem dX3_init_61 : decode cX3_init 61 = .ok (.iconst 3, 1) := by decide +kernel
theorem dX3_init_62 : decode cX3_init 62 = .ok (.iconst 1, 1) := by decide +kernel
theorem dX3_init_63 : decode cX3_init 63 = .ok (.iastore, 1) := by decide +kernel
theorem dX3_init_64 : decode cX3_init 64 = .ok (.putfield 27, 3) := by decide +kernel
theorem dX3_init_67 : decode cX3_init 67 = .ok (.aload_n 0, 1) := by decide +kernel
theorem dX3_init_68 : decode cX3_init 68 = .ok (.new 30, 3) := by decide +kernel
theorem dX3_init_71 : decode cX3_init 71 = .ok (.dup, 1) := by decide +kernel
theorem dX3_init_72 : decode cX3_init 72 = .ok (.invokespecial 32, 3) := by decide +kernel
theorem dX3_init_75 : decode cX3_init 75 = .ok (.putfield 33, 3) := by decide +kernel
theorem dX3_init_78 : decode cX3_init 78 = .ok (.return_, 1) := by decide +kernel
theorem dX3_become_0 : decode cX3_become 0 = .ok (.aload_n 1, 1) := by decide +kernel
theorem dX3_become_1 : decode cX3_become 1 = .ok (.getfield 9, 3) := by decide +kernel
theorem dX3_become_4 : decode cX3_become 4 = .ok (.iconst 0, 1) := by decide +kernel
theorem dX3_become_5 : decode cX3_become 5 = .ok (.aload_n 0, 1) := by decide +kernel
theorem dX3_become_6 : decode cX3_become 6 = .ok (.getfield 9, 3) := by decide +kernel
theorem dX3_become_9 : decode cX3_become 9 = .ok (.iconst 0, 1) := by decide +kernel
theorem dX3_become_10 : decode cX3_become 10 = .ok (.bipush 6, 2) := by decide +kernel
theorem dX3_become_12 : decode cX3_become 12 = .ok (.invokestatic 37, 3) := by decide +kernel
theorem dX3_become_15 : decode cX3_become 15 = .ok (.aload_n 1, 1) := by decide +kernel
theorem dX3_become_16 : decode cX3_become 16 = .ok (.getfield 15, 3) := by decide +kernel
theorem dX3_become_19 : decode cX3_become 19 = .ok (.iconst 0, 1) := by decide +kernel
theorem dX3_become_20 : decode cX3_become 20 = .ok (.aload_n 0, 1) := by decide +kernel
theorem dX3_become_21 : decode cX3_become 21 = .ok (.getfield 15, 3) := by decide +kernel
theorem dX3_become_24 : decode cX3_become 24 = .ok (.iconst 0, 1) := by decide +kernel
theorem dX3_become_25 : decode cX3_become 25 = .ok (.bipush 6, 2) := by decide +kernel
theorem dX3_become_27 : decode cX3_become 27 = .ok (.invokestatic 37, 3) := by decide +kernel
theorem dX3_become_30 : decode cX3_become 30 = .ok (.aload_n 1, 1) := by decide +kernel
theorem dX3_become_31 : decode cX3_become 31 = .ok (.getfield 18, 3) := by decide +kernel
theorem dX3_become_34 : decode cX3_become 34 = .ok (.iconst 0, 1) := by decide +kernel
theorem dX3_become_35 : decode cX3_become 35 = .ok (.aload_n 0, 1) := by decide +kernel
theorem dX3_become_36 : decode cX3_become 36 = .ok (.getfield 18, 3) := by decide +kernel
theorem dX3_become_39 : decode cX3_become 39 = .ok (.iconst 0, 1) := by decide +kernel
theorem dX3_become_40 : decode cX3_become 40 = .ok (.bipush 6, 2) := by decide +kernel
theorem dX3_become_42 : decode cX3_become 42 = .ok (.invokestatic 37, 3) := by decide +kernel
theorem dX3_become_45 : decode cX3_become 45 = .ok (.aload_n 1, 1) := by decide +kernel
theorem dX3_become_46 : decode cX3_become 46 = .ok (.getfield 21, 3) := by decide +kernel
theorem dX3_become_49 : decode cX3_become 49 = .ok (.iconst 0, 1) := by decide +kernel
theorem dX3_become_50 : decode cX3_become 50 = .ok (.aload_n 0, 1) := by decide +kernel
theorem dX3_become_51 : decode cX3_become 51 = .ok (.getfield 21, 3) := by decide +kernel
theorem dX3_become_54 : decode cX3_become 54 = .ok (.iconst 0, 1) := by decide +kernel
theorem dX3_become_55 : decode cX3_become 55 = .ok (.bipush 6, 2) := by decide +kernel
theorem dX3_become_57 : decode cX3_become 57 = .ok (.invokestatic 37, 3) := by decide +kernel
theorem dX3_become_60 : decode cX3_become 60 = .ok (.aload_n 1, 1) := by decide +kernel
theorem dX3_become_61 : decode cX3_become 61 = .ok (.getfield 24, 3) := by decide +kernel
theorem dX3_become_64 : decode cX3_become 64 = .ok (.iconst 0, 1) := by decide +kernel
theorem dX3_become_65 : decode cX3_become 65 = .ok (.aload_n 0, 1) := by decide +kernel
theorem dX3_become_66 : decode cX3_become 66 = .ok (.getfield 24, 3) := by decide +kernel
theorem dX3_become_69 : decode cX3_become 69 = .ok (.iconst 0, 1) := by decide +kernel
theorem dX3_become_70 : decode cX3_become 70 = .ok (.bipush 6, 2) := by decide +kernel
theorem dX3_become_72 : decode cX3_become 72 = .ok (.invokestatic 37, 3) := by decide +kernel
theorem dX3_become_75 : decode cX3_become 75 = .ok (.aload_n 1, 1) := by decide +kernel
theorem dX3_become_76 : decode cX3_become 76 = .ok (.getfield 27, 3) := by decide +kernel
theorem dX3_become_79 : decode cX3_become 79 = .ok (.iconst 0, 1) := by decide +kernel
theorem dX3_become_80 : decode cX3_become 80 = .ok (.aload_n 0, 1) := by decide +kernel
theorem dX3_become_81 : decode cX3_become 81 = .ok (.getfield 27, 3) := by decide +kernel
theorem dX3_become_84 : decode cX3_become 84 = .ok (.iconst 0, 1) := by decide +kernel
theorem dX3_become_85 : decode cX3_become 85 = .ok (.aload_n 0, 1) := by decide +kernel
theorem dX3_become_86 : decode cX3_become 86 = .ok (.getfield 27, 3) := by decide +kernel
theorem dX3_become_89 : decode cX3_become 89 = .ok (.arraylength, 1) := by decide +kernel
theorem dX3_become_90 : decode cX3_become 90 = .ok (.invokestatic 37, 3) := by decide +kernel
theorem dX3_become_93 : decode cX3_become 93 = .ok (.aload_n 0, 1) := by decide +kernel
theorem dX3_become_94 : decode cX3_become 94 = .ok (.getfield 33, 3) := by decide +kernel
theorem dX3_become_97 : decode cX3_become 97 = .ok (.aload_n 1, 1) := by decide +kernel
theorem dX3_become_98 : decode cX3_become 98 = .ok (.getfield 33, 3) := by decide +kernel
theorem dX3_become_101 : decode cX3_become 101 = .ok (.invokevirtual 43, 3) := by decide +kernel
theorem dX3_become_104 : decode cX3_become 104 = .ok (.aload_n 0, 1) := by decide +kernel
theorem dX3_become_105 : decode cX3_become 105 = .ok (.aload_n 1, 1) := by decide +kernel
theorem dX3_become_106 : decode cX3_become 106 = .ok (.getfield 47, 3) := by decide +kernel
theorem dX3_become_109 : decode cX3_become 109 = .ok (.putfield 47, 3) := by decide +kernel
theorem dX3_become_112 : decode cX3_become 112 = .ok (.aload_n 0, 1) := by decide +kernel
theorem dX3_become_113 : decode cX3_become 113 = .ok (.aload_n 1, 1) := by decide +kernel
theorem dX3_become_114 : decode cX3_become 114 = .ok (.getfield 51, 3) := by decide +kernel
theorem dX3_become_117 : decode cX3_become 117 = .ok (.putfield 51, 3) := by decide +kernel
theorem dX3_become_120 : decode cX3_become 120 = .ok (.return_, 1) := by decide +kernel
theorem dX3_exists_0 : decode cX3_exists 0 = .ok (.iload_n 1, 1) := by decide +kernel
theorem dX3_exists_1 : decode cX3_exists 1 = .ok (.ifCond .lt 15, 3) := by decide +kernel
theorem dX3_exists_4 : decode cX3_exists 4 = .ok (.iload_n 1, 1) := by decide +kernel
theorem dX3_exists_5 : decode cX3_exists 5 = .ok (.aload_n 0, 1) := by decide +kernel
theorem dX3_exists_6 : decode cX3_exists 6 = .ok (.getfield 47, 3) := by decide +kernel
theorem dX3_exists_9 : decode cX3_exists 9 = .ok (.if_icmp .ge 7, 3) := by decide +kernel
theorem dX3_exists_12 : decode cX3_exists 12 = .ok (.iconst 1, 1) := by decide +kernel
theorem dX3_exists_13 : decode cX3_exists 13 = .ok (.goto 4, 3) := by decide +kernel
theorem dX3_exists_16 : decode cX3_exists 16 = .ok (.iconst 0, 1) := by decide +kernel
theorem dX3_exists_17 : decode cX3_exists 17 = .ok (.ireturn, 1) := by decide +kernel
theorem dX3_welcome_0 : decode cX3_welcome 0 = .ok (.iload_n 3, 1) := by decide +kernel
theorem dX3_welcome_1 : decode cX3_welcome 1 = .ok (.bipush 9, 2) := by decide +kernel
theorem dX3_welcome_3 : decode cX3_welcome 3 = .ok (.if_icmp .eq 11, 3) := by decide +kernel
theorem dX3_welcome_6 : decode cX3_welcome 6 = .ok (.iload_n 3, 1) := by decide +kernel
theorem dX3_welcome_7 : decode cX3_welcome 7 = .ok (.aload_n 0, 1) := by decide +kernel
theorem dX3_welcome_8 : decode cX3_welcome 8 = .ok (.getfield 47, 3) := by decide +kernel
theorem dX3_welcome_11 : decode cX3_welcome 11 = .ok (.if_icmp .gt 7, 3) := by decide +kernel
theorem dX3_welcome_14 : decode cX3_welcome 14 = .ok (.iconst 1, 1) := by decide +kernel
theorem dX3_welcome_15 : decode cX3_welcome 15 = .ok (.goto 4, 3) := by decide +kernel
theorem dX3_welcome_18 : decode cX3_welcome 18 = .ok (.iconst 0, 1) := by decide +kernel
theorem dX3_welcome_19 : decode cX3_welcome 19 = .ok (.istore 6, 2) := by decide +kernel
theorem dX3_welcome_21 : decode cX3_welcome 21 = .ok (.aload_n 0, 1) := by decide +kernel
theorem dX3_welcome_22 : decode cX3_welcome 22 = .ok (.getfield 51, 3) := by decide +kernel
theorem dX3_welcome_25 : decode cX3_welcome 25 = .ok (.ifCond .gt 23, 3) := by decide +kernel
theorem dX3_welcome_28 : decode cX3_welcome 28 = .ok (.aload_n 0, 1) := by decide +kernel
theorem dX3_welcome_29 : decode cX3_welcome 29 = .ok (.getfield 47, 3) := by decide +kernel
theorem dX3_welcome_32 : decode cX3_welcome 32 = .ok (.bipush 6, 2) := by decide +kernel
theorem dX3_welcome_34 : decode cX3_welcome 34 = .ok (.if_icmp .ge 14, 3) := by decide +kernel
theorem dX3_welcome_37 : decode cX3_welcome 37 = .ok (.iload_n 1, 1) := by decide +kernel
theorem dX3_welcome_38 : decode cX3_welcome 38 = .ok (.bipush 7, 2) := by decide +kernel
theorem dX3_welcome_40 : decode cX3_welcome 40 = .ok (.if_icmp .gt 8, 3) := by decide +kernel
theorem dX3_welcome_43 : decode cX3_welcome 43 = .ok (.iload 6, 2) := by decide +kernel
theorem dX3_welcome_45 : decode cX3_welcome 45 = .ok (.ifCond .ne 5, 3) := by decide +kernel
theorem dX3_welcome_48 : decode cX3_welcome 48 = .ok (.iconst 0, 1) := by decide +kernel
theorem dX3_welcome_49 : decode cX3_welcome 49 = .ok (.ireturn, 1) := by decide +kernel
theorem dX3_welcome_50 : decode cX3_welcome 50 = .ok (.aload_n 0, 1) := by decide +kernel
theorem dX3_welcome_51 : decode cX3_welcome 51 = .ok (.getfield 9, 3) := by decide +kernel
theorem dX3_welcome_54 : decode cX3_welcome 54 = .ok (.aload_n 0, 1) := by decide +kernel
theorem dX3_welcome_55 : decode cX3_welcome 55 = .ok (.getfield 47, 3) := by decide +kernel
theorem dX3_welcome_58 : decode cX3_welcome 58 = .ok (.iload_n 1, 1) := by decide +kernel
theorem dX3_welcome_59 : decode cX3_welcome 59 = .ok (.iastore, 1) := by decide +kernel
theorem dX3_welcome_60 : decode cX3_welcome 60 = .ok (.aload_n 0, 1) := by decide +kernel
theorem dX3_welcome_61 : decode cX3_welcome 61 = .ok (.getfield 15, 3) := by decide +kernel
theorem dX3_welcome_64 : decode cX3_welcome 64 = .ok (.aload_n 0, 1) := by decide +kernel
theorem dX3_welcome_65 : decode cX3_welcome 65 = .ok (.getfield 47, 3) := by decide +kernel
theorem dX3_welcome_68 : decode cX3_welcome 68 = .ok (.iload_n 2, 1) := by decide +kernel
theorem dX3_welcome_69 : decode cX3_welcome 69 = .ok (.iastore, 1) := by decide +kernel
theorem dX3_welcome_70 : decode cX3_welcome 70 = .ok (.aload_n 0, 1) := by decide +kernel
theorem dX3_welcome_71 : decode cX3_welcome 71 = .ok (.getfield 18, 3) := by decide +kernel
theorem dX3_welcome_74 : decode cX3_welcome 74 = .ok (.aload_n 0, 1) := by decide +kernel
theorem dX3_welcome_75 : decode cX3_welcome 75 = .ok (.getfield 47, 3) := by decide +kernel
theorem dX3_welcome_78 : decode cX3_welcome 78 = .ok (.iload_n 3, 1) := by decide +kernel
theorem dX3_welcome_79 : decode cX3_welcome 79 = .ok (.iastore, 1) := by decide +kernel
theorem dX3_welcome_80 : decode cX3_welcome 80 = .ok (.aload_n 0, 1) := by decide +kernel
theorem dX3_welcome_81 : decode cX3_welcome 81 = .ok (.getfield 21, 3) := by decide +kernel
theorem dX3_welcome_84 : decode cX3_welcome 84 = .ok (.aload_n 0, 1) := by decide +kernel
theorem dX3_welcome_85 : decode cX3_welcome 85 = .ok (.getfield 47, 3) := by decide +kernel
theorem dX3_welcome_88 : decode cX3_welcome 88 = .ok (.iload 4, 2) := by decide +kernel
theorem dX3_welcome_90 : decode cX3_welcome 90 = .ok (.iastore, 1) := by decide +kernel
theorem dX3_welcome_91 : decode cX3_welcome 91 = .ok (.aload_n 0, 1) := by decide +kernel
theorem dX3_welcome_92 : decode cX3_welcome 92 = .ok (.getfield 24, 3) := by decide +kernel
theorem dX3_welcome_95 : decode cX3_welcome 95 = .ok (.aload_n 0, 1) := by decide +kernel
theorem dX3_welcome_96 : decode cX3_welcome 96 = .ok (.getfield 47, 3) := by decide +kernel
theorem dX3_welcome_99 : decode cX3_welcome 99 = .ok (.iload 5, 2) := by decide +kernel
theorem dX3_welcome_101 : decode cX3_welcome 101 = .ok (.iastore, 1) := by decide +kernel
theorem dX3_welcome_102 : decode cX3_welcome 102 = .ok (.aload_n 0, 1) := by decide +kernel
theorem dX3_welcome_103 : decode cX3_welcome 103 = .ok (.dup, 1) := by decide +kernel
theorem dX3_welcome_104 : decode cX3_welcome 104 = .ok (.getfield 47, 3) := by decide +kernel
theorem dX3_welcome_107 : decode cX3_welcome 107 = .ok (.iconst 1, 1) := by decide +kernel
theorem dX3_welcome_108 : decode cX3_welcome 108 = .ok (.iadd, 1) := by decide +kernel
theorem dX3_welcome_109 : decode cX3_welcome 109 = .ok (.putfield 47, 3) := by decide +kernel
theorem dX3_welcome_112 : decode cX3_welcome 112 = .ok (.iconst 1, 1) := by decide +kernel
theorem dX3_welcome_113 : decode cX3_welcome 113 = .ok (.ireturn, 1) := by decide +kernel
theorem dX3_takeLaw_0 : decode cX3_takeLaw 0 = .ok (.iload_n 1, 1) := by decide +kernel
theorem dX3_takeLaw_1 : decode cX3_takeLaw 1 = .ok (.iconst 5, 1) := by decide +kernel
theorem dX3_takeLaw_2 : decode cX3_takeLaw 2 = .ok (.if_icmp .gt 25, 3) := by decide +kernel
theorem dX3_takeLaw_5 : decode cX3_takeLaw 5 = .ok (.iload_n 2, 1) := by decide +kernel
theorem dX3_takeLaw_6 : decode cX3_takeLaw 6 = .ok (.getstatic 54, 3) := by decide +kernel
theorem dX3_takeLaw_9 : decode cX3_takeLaw 9 = .ok (.iconst 1, 1) := by decide +kernel
theorem dX3_takeLaw_10 : decode cX3_takeLaw 10 = .ok (.iaload, 1) := by decide +kernel
theorem dX3_takeLaw_11 : decode cX3_takeLaw 11 = .ok (.getstatic 57, 3) := by decide +kernel
theorem dX3_takeLaw_14 : decode cX3_takeLaw 14 = .ok (.iconst 1, 1) := by decide +kernel
theorem dX3_takeLaw_15 : decode cX3_takeLaw 15 = .ok (.iaload, 1) := by decide +kernel
theorem dX3_takeLaw_16 : decode cX3_takeLaw 16 = .ok (.invokestatic 60, 3) := by decide +kernel
theorem dX3_takeLaw_19 : decode cX3_takeLaw 19 = .ok (.ifCond .ne 8, 3) := by decide +kernel
theorem dX3_takeLaw_22 : decode cX3_takeLaw 22 = .ok (.iload_n 3, 1) := by decide +kernel
theorem dX3_takeLaw_23 : decode cX3_takeLaw 23 = .ok (.iconst 5, 1) := by decide +kernel
theorem dX3_takeLaw_24 : decode cX3_takeLaw 24 = .ok (.if_icmp .le 5, 3) := by decide +kernel
theorem dX3_takeLaw_27 : decode cX3_takeLaw 27 = .ok (.iconst 0, 1) := by decide +kernel
theorem dX3_takeLaw_28 : decode cX3_takeLaw 28 = .ok (.ireturn, 1) := by decide +kernel
theorem dX3_takeLaw_29 : decode cX3_takeLaw 29 = .ok (.aload_n 0, 1) := by decide +kernel
theorem dX3_takeLaw_30 : decode cX3_takeLaw 30 = .ok (.getfield 27, 3) := by decide +kernel
theorem dX3_takeLaw_33 : decode cX3_takeLaw 33 = .ok (.iconst 0, 1) := by decide +kernel
theorem dX3_takeLaw_34 : decode cX3_takeLaw 34 = .ok (.iload_n 1, 1) := by decide +kernel
theorem dX3_takeLaw_35 : decode cX3_takeLaw 35 = .ok (.iastore, 1) := by decide +kernel
theorem dX3_takeLaw_36 : decode cX3_takeLaw 36 = .ok (.aload_n 0, 1) := by decide +kernel
theorem dX3_takeLaw_37 : decode cX3_takeLaw 37 = .ok (.getfield 27, 3) := by decide +kernel
theorem dX3_takeLaw_40 : decode cX3_takeLaw 40 = .ok (.iconst 1, 1) := by decide +kernel
theorem dX3_takeLaw_41 : decode cX3_takeLaw 41 = .ok (.iload_n 2, 1) := by decide +kernel
theorem dX3_takeLaw_42 : decode cX3_takeLaw 42 = .ok (.iastore, 1) := by decide +kernel
theorem dX3_takeLaw_43 : decode cX3_takeLaw 43 = .ok (.aload_n 0, 1) := by decide +kernel
theorem dX3_takeLaw_44 : decode cX3_takeLaw 44 = .ok (.iconst 2, 1) := by decide +kernel
theorem dX3_takeLaw_45 : decode cX3_takeLaw 45 = .ok (.iload_n 3, 1) := by decide +kernel
theorem dX3_takeLaw_46 : decode cX3_takeLaw 46 = .ok (.invokevirtual 64, 3) := by decide +kernel
theorem dX3_takeLaw_49 : decode cX3_takeLaw 49 = .ok (.pop, 1) := by decide +kernel
theorem dX3_takeLaw_50 : decode cX3_takeLaw 50 = .ok (.iconst 1, 1) := by decide +kernel
theorem dX3_takeLaw_51 : decode cX3_takeLaw 51 = .ok (.ireturn, 1) := by decide +kernel
theorem dX3_changeSetting_0 : decode cX3_changeSetting 0 = .ok (.aload_n 0, 1) := by decide +kernel
theorem dX3_changeSetting_1 : decode cX3_changeSetting 1 = .ok (.getfield 27, 3) := by decide +kernel
theorem dX3_changeSetting_4 : decode cX3_changeSetting 4 = .ok (.iload_n 1, 1) := by decide +kernel
theorem dX3_changeSetting_5 : decode cX3_changeSetting 5 = .ok (.iaload, 1) := by decide +kernel
theorem dX3_changeSetting_6 : decode cX3_changeSetting 6 = .ok (.istore_n 3, 1) := by decide +kernel
theorem dX3_changeSetting_7 : decode cX3_changeSetting 7 = .ok (.aload_n 0, 1) := by decide +kernel
theorem dX3_changeSetting_8 : decode cX3_changeSetting 8 = .ok (.getfield 27, 3) := by decide +kernel
theorem dX3_changeSetting_11 : decode cX3_changeSetting 11 = .ok (.iload_n 1, 1) := by decide +kernel
theorem dX3_changeSetting_12 : decode cX3_changeSetting 12 = .ok (.iload_n 2, 1) := by decide +kernel
theorem dX3_changeSetting_13 : decode cX3_changeSetting 13 = .ok (.iastore, 1) := by decide +kernel
theorem dX3_changeSetting_14 : decode cX3_changeSetting 14 = .ok (.iload_n 1, 1) := by decide +kernel
theorem dX3_changeSetting_15 : decode cX3_changeSetting 15 = .ok (.iconst 2, 1) := by decide +kernel
theorem dX3_changeSetting_16 : decode cX3_changeSetting 16 = .ok (.if_icmp .ne 16, 3) := by decide +kernel
theorem dX3_changeSetting_19 : decode cX3_changeSetting 19 = .ok (.iload_n 3, 1) := by decide +kernel
theorem dX3_changeSetting_20 : decode cX3_changeSetting 20 = .ok (.iload_n 2, 1) := by decide +kernel
theorem dX3_changeSetting_21 : decode cX3_changeSetting 21 = .ok (.if_icmp .eq 11, 3) := by decide +kernel
theorem dX3_changeSetting_24 : decode cX3_changeSetting 24 = .ok (.aload_n 0, 1) := by decide +kernel
theorem dX3_changeSetting_25 : decode cX3_changeSetting 25 = .ok (.getfield 33, 3) := by decide +kernel
theorem dX3_changeSetting_28 : decode cX3_changeSetting 28 = .ok (.iload_n 2, 1) := by decide +kernel
theorem dX3_changeSetting_29 : decode cX3_changeSetting 29 = .ok (.invokevirtual 68, 3) := by decide +kernel
theorem dX3_changeSetting_32 : decode cX3_changeSetting 32 = .ok (.iload_n 3, 1) := by decide +kernel
theorem dX3_changeSetting_33 : decode cX3_changeSetting 33 = .ok (.ireturn, 1) := by decide +kernel
theorem dX3_sumOfHas_0 : decode cX3_sumOfHas 0 = .ok (.iconst 0, 1) := by decide +kernel
theorem dX3_sumOfHas_1 : decode cX3_sumOfHas 1 = .ok (.istore_n 1, 1) := by decide +kernel
theorem dX3_sumOfHas_2 : decode cX3_sumOfHas 2 = .ok (.iconst 0, 1) := by decide +kernel
theorem dX3_sumOfHas_3 : decode cX3_sumOfHas 3 = .ok (.istore_n 2, 1) := by decide +kernel
theorem dX3_sumOfHas_4 : decode cX3_sumOfHas 4 = .ok (.iload_n 2, 1) := by decide +kernel
theorem dX3_sumOfHas_5 : decode cX3_sumOfHas 5 = .ok (.aload_n 0, 1) := by decide +kernel
theorem dX3_sumOfHas_6 : decode cX3_sumOfHas 6 = .ok (.getfield 47, 3) := by decide +kernel
theorem dX3_sumOfHas_9 : decode cX3_sumOfHas 9 = .ok (.if_icmp .ge 18, 3) := by decide +kernel
theorem dX3_sumOfHas_12 : decode cX3_sumOfHas 12 = .ok (.iload_n 1, 1) := by decide +kernel
theorem dX3_sumOfHas_13 : decode cX3_sumOfHas 13 = .ok (.aload_n 0, 1) := by decide +kernel
theorem dX3_sumOfHas_14 : decode cX3_sumOfHas 14 = .ok (.getfield 21, 3) := by decide +kernel
theorem dX3_sumOfHas_17 : decode cX3_sumOfHas 17 = .ok (.iload_n 2, 1) := by decide +kernel
theorem dX3_sumOfHas_18 : decode cX3_sumOfHas 18 = .ok (.iaload, 1) := by decide +kernel
theorem dX3_sumOfHas_19 : decode cX3_sumOfHas 19 = .ok (.iadd, 1) := by decide +kernel
theorem dX3_sumOfHas_20 : decode cX3_sumOfHas 20 = .ok (.istore_n 1, 1) := by decide +kernel
theorem dX3_sumOfHas_21 : decode cX3_sumOfHas 21 = .ok (.iinc 2 1, 3) := by decide +kernel
theorem dX3_sumOfHas_24 : decode cX3_sumOfHas 24 = .ok (.goto (-20), 3) := by decide +kernel
theorem dX3_sumOfHas_27 : decode cX3_sumOfHas 27 = .ok (.iload_n 1, 1) := by decide +kernel
theorem dX3_sumOfHas_28 : decode cX3_sumOfHas 28 = .ok (.ireturn, 1) := by decide +kernel
theorem dX3_sumOfLying_0 : decode cX3_sumOfLying 0 = .ok (.iconst 0, 1) := by decide +kernel
theorem dX3_sumOfLying_1 : decode cX3_sumOfLying 1 = .ok (.istore_n 1, 1) := by decide +kernel
theorem dX3_sumOfLying_2 : decode cX3_sumOfLying 2 = .ok (.iconst 0, 1) := by decide +kernel
theorem dX3_sumOfLying_3 : decode cX3_sumOfLying 3 = .ok (.istore_n 2, 1) := by decide +kernel
theorem dX3_sumOfLying_4 : decode cX3_sumOfLying 4 = .ok (.iload_n 2, 1) := by decide +kernel
theorem dX3_sumOfLying_5 : decode cX3_sumOfLying 5 = .ok (.aload_n 0, 1) := by decide +kernel
theorem dX3_sumOfLying_6 : decode cX3_sumOfLying 6 = .ok (.getfield 47, 3) := by decide +kernel
theorem dX3_sumOfLying_9 : decode cX3_sumOfLying 9 = .ok (.if_icmp .ge 20, 3) := by decide +kernel
theorem dX3_sumOfLying_12 : decode cX3_sumOfLying 12 = .ok (.iload_n 1, 1) := by decide +kernel
theorem dX3_sumOfLying_13 : decode cX3_sumOfLying 13 = .ok (.aload_n 0, 1) := by decide +kernel
theorem dX3_sumOfLying_14 : decode cX3_sumOfLying 14 = .ok (.getfield 33, 3) := by decide +kernel
theorem dX3_sumOfLying_17 : decode cX3_sumOfLying 17 = .ok (.iload_n 2, 1) := by decide +kernel
theorem dX3_sumOfLying_18 : decode cX3_sumOfLying 18 = .ok (.invokevirtual 72, 3) := by decide +kernel
theorem dX3_sumOfLying_21 : decode cX3_sumOfLying 21 = .ok (.iadd, 1) := by decide +kernel
theorem dX3_sumOfLying_22 : decode cX3_sumOfLying 22 = .ok (.istore_n 1, 1) := by decide +kernel
theorem dX3_sumOfLying_23 : decode cX3_sumOfLying 23 = .ok (.iinc 2 1, 3) := by decide +kernel
theorem dX3_sumOfLying_26 : decode cX3_sumOfLying 26 = .ok (.goto (-22), 3) := by decide +kernel
theorem dX3_sumOfLying_29 : decode cX3_sumOfLying 29 = .ok (.iload_n 1, 1) := by decide +kernel
theorem dX3_sumOfLying_30 : decode cX3_sumOfLying 30 = .ok (.ireturn, 1) := by decide +kernel
theorem dX3_sumOfGiven_0 : decode cX3_sumOfGiven 0 = .ok (.iconst 0, 1) := by decide +kernel
theorem dX3_sumOfGiven_1 : decode cX3_sumOfGiven 1 = .ok (.istore_n 1, 1) := by decide +kernel
theorem dX3_sumOfGiven_2 : decode cX3_sumOfGiven 2 = .ok (.iconst 0, 1) := by decide +kernel
theorem dX3_sumOfGiven_3 : decode cX3_sumOfGiven 3 = .ok (.istore_n 2, 1) := by decide +kernel
theorem dX3_sumOfGiven_4 : decode cX3_sumOfGiven 4 = .ok (.iload_n 2, 1) := by decide +kernel
theorem dX3_sumOfGiven_5 : decode cX3_sumOfGiven 5 = .ok (.aload_n 0, 1) := by decide +kernel
theorem dX3_sumOfGiven_6 : decode cX3_sumOfGiven 6 = .ok (.getfield 47, 3) := by decide +kernel
theorem dX3_sumOfGiven_9 : decode cX3_sumOfGiven 9 = .ok (.if_icmp .ge 20, 3) := by decide +kernel
theorem dX3_sumOfGiven_12 : decode cX3_sumOfGiven 12 = .ok (.iload_n 1, 1) := by decide +kernel
theorem dX3_sumOfGiven_13 : decode cX3_sumOfGiven 13 = .ok (.aload_n 0, 1) := by decide +kernel
theorem dX3_sumOfGiven_14 : decode cX3_sumOfGiven 14 = .ok (.getfield 33, 3) := by decide +kernel
theorem dX3_sumOfGiven_17 : decode cX3_sumOfGiven 17 = .ok (.iload_n 2, 1) := by decide +kernel
theorem dX3_sumOfGiven_18 : decode cX3_sumOfGiven 18 = .ok (.invokevirtual 76, 3) := by decide +kernel
theorem dX3_sumOfGiven_21 : decode cX3_sumOfGiven 21 = .ok (.iadd, 1) := by decide +kernel
theorem dX3_sumOfGiven_22 : decode cX3_sumOfGiven 22 = .ok (.istore_n 1, 1) := by decide +kernel
theorem dX3_sumOfGiven_23 : decode cX3_sumOfGiven 23 = .ok (.iinc 2 1, 3) := by decide +kernel
theorem dX3_sumOfGiven_26 : decode cX3_sumOfGiven 26 = .ok (.goto (-22), 3) := by decide +kernel
theorem dX3_sumOfGiven_29 : decode cX3_sumOfGiven 29 = .ok (.iload_n 1, 1) := by decide +kernel
theorem dX3_sumOfGiven_30 : decode cX3_sumOfGiven 30 = .ok (.ireturn, 1) := by decide +kernel
theorem dX3_richestAbove_0 : decode cX3_richestAbove 0 = .ok (.bipush (-9), 2) := by decide +kernel
theorem dX3_richestAbove_2 : decode cX3_richestAbove 2 = .ok (.istore_n 2, 1) := by decide +kernel
theorem dX3_richestAbove_3 : decode cX3_richestAbove 3 = .ok (.iload_n 1, 1) := by decide +kernel
theorem dX3_richestAbove_4 : decode cX3_richestAbove 4 = .ok (.istore_n 3, 1) := by decide +kernel
theorem dX3_richestAbove_5 : decode cX3_richestAbove 5 = .ok (.iconst 0, 1) := by decide +kernel
theorem dX3_richestAbove_6 : decode cX3_richestAbove 6 = .ok (.istore 4, 2) := by decide +kernel
theorem dX3_richestAbove_8 : decode cX3_richestAbove 8 = .ok (.iload 4, 2) := by decide +kernel
theorem dX3_richestAbove_10 : decode cX3_richestAbove 10 = .ok (.aload_n 0, 1) := by decide +kernel
theorem dX3_richestAbove_11 : decode cX3_richestAbove 11 = .ok (.getfield 47, 3) := by decide +kernel
theorem dX3_richestAbove_14 : decode cX3_richestAbove 14 = .ok (.if_icmp .ge 31, 3) := by decide +kernel
theorem dX3_richestAbove_17 : decode cX3_richestAbove 17 = .ok (.aload_n 0, 1) := by decide +kernel
theorem dX3_richestAbove_18 : decode cX3_richestAbove 18 = .ok (.getfield 21, 3) := by decide +kernel
theorem dX3_richestAbove_21 : decode cX3_richestAbove 21 = .ok (.iload 4, 2) := by decide +kernel
theorem dX3_richestAbove_23 : decode cX3_richestAbove 23 = .ok (.iaload, 1) := by decide +kernel
theorem dX3_richestAbove_24 : decode cX3_richestAbove 24 = .ok (.iload_n 3, 1) := by decide +kernel
theorem dX3_richestAbove_25 : decode cX3_richestAbove 25 = .ok (.if_icmp .le 14, 3) := by decide +kernel
theorem dX3_richestAbove_28 : decode cX3_richestAbove 28 = .ok (.iload 4, 2) := by decide +kernel
theorem dX3_richestAbove_30 : decode cX3_richestAbove 30 = .ok (.istore_n 2, 1) := by decide +kernel
theorem dX3_richestAbove_31 : decode cX3_richestAbove 31 = .ok (.aload_n 0, 1) := by decide +kernel
theorem dX3_richestAbove_32 : decode cX3_richestAbove 32 = .ok (.getfield 21, 3) := by decide +kernel
theorem dX3_richestAbove_35 : decode cX3_richestAbove 35 = .ok (.iload 4, 2) := by decide +kernel
theorem dX3_richestAbove_37 : decode cX3_richestAbove 37 = .ok (.iaload, 1) := by decide +kernel
theorem dX3_richestAbove_38 : decode cX3_richestAbove 38 = .ok (.istore_n 3, 1) := by decide +kernel
theorem dX3_richestAbove_39 : decode cX3_richestAbove 39 = .ok (.iinc 4 1, 3) := by decide +kernel
theorem dX3_richestAbove_42 : decode cX3_richestAbove 42 = .ok (.goto (-34), 3) := by decide +kernel
theorem dX3_richestAbove_45 : decode cX3_richestAbove 45 = .ok (.iload_n 2, 1) := by decide +kernel
theorem dX3_richestAbove_46 : decode cX3_richestAbove 46 = .ok (.ireturn, 1) := by decide +kernel
theorem dX3_leave_0 : decode cX3_leave 0 = .ok (.aload_n 0, 1) := by decide +kernel
theorem dX3_leave_1 : decode cX3_leave 1 = .ok (.getfield 9, 3) := by decide +kernel
theorem dX3_leave_4 : decode cX3_leave 4 = .ok (.iload_n 1, 1) := by decide +kernel
theorem dX3_leave_5 : decode cX3_leave 5 = .ok (.iaload, 1) := by decide +kernel
theorem dX3_leave_6 : decode cX3_leave 6 = .ok (.bipush 7, 2) := by decide +kernel
theorem dX3_leave_8 : decode cX3_leave 8 = .ok (.if_icmp .ne 7, 3) := by decide +kernel
theorem dX3_leave_11 : decode cX3_leave 11 = .ok (.sipush 9999, 3) := by decide +kernel
theorem dX3_leave_14 : decode cX3_leave 14 = .ok (.ireturn, 1) := by decide +kernel
theorem dX3_leave_15 : decode cX3_leave 15 = .ok (.aload_n 0, 1) := by decide +kernel
end
section
theorem dX3_leave_16 : decode cX3_leave 16 = .ok (.getfield 33, 3) := by decide +kernel
theorem dX3_leave_19 : decode cX3_leave 19 = .ok (.iload_n 1, 1) := by decide +kernel
theorem dX3_leave_20 : decode cX3_leave 20 = .ok (.invokevirtual 79, 3) := by decide +kernel
theorem dX3_leave_23 : decode cX3_leave 23 = .ok (.istore_n 2, 1) := by decide +kernel
theorem dX3_leave_24 : decode cX3_leave 24 = .ok (.aload_n 0, 1) := by decide +kernel
theorem dX3_leave_25 : decode cX3_leave 25 = .ok (.getfield 27, 3) := by decide +kernel
theorem dX3_leave_28 : decode cX3_leave 28 = .ok (.iconst 0, 1) := by decide +kernel
theorem dX3_leave_29 : decode cX3_leave 29 = .ok (.iaload, 1) := by decide +kernel
theorem dX3_leave_30 : decode cX3_leave 30 = .ok (.tableswitch 111 0 5 #[111, 38, 48, 56, 75, 94], 38) := by decide +kernel
theorem dX3_leave_68 : decode cX3_leave 68 = .ok (.aload_n 0, 1) := by decide +kernel
theorem dX3_leave_69 : decode cX3_leave 69 = .ok (.iload_n 2, 1) := by decide +kernel
theorem dX3_leave_70 : decode cX3_leave 70 = .ok (.iconst 1, 1) := by decide +kernel
theorem dX3_leave_71 : decode cX3_leave 71 = .ok (.iadd, 1) := by decide +kernel
theorem dX3_leave_72 : decode cX3_leave 72 = .ok (.iconst 2, 1) := by decide +kernel
theorem dX3_leave_73 : decode cX3_leave 73 = .ok (.idiv, 1) := by decide +kernel
theorem dX3_leave_74 : decode cX3_leave 74 = .ok (.invokevirtual 82, 3) := by decide +kernel
theorem dX3_leave_77 : decode cX3_leave 77 = .ok (.ireturn, 1) := by decide +kernel
theorem dX3_leave_78 : decode cX3_leave 78 = .ok (.aload_n 0, 1) := by decide +kernel
theorem dX3_leave_79 : decode cX3_leave 79 = .ok (.iload_n 2, 1) := by decide +kernel
theorem dX3_leave_80 : decode cX3_leave 80 = .ok (.iconst 2, 1) := by decide +kernel
theorem dX3_leave_81 : decode cX3_leave 81 = .ok (.imul, 1) := by decide +kernel
theorem dX3_leave_82 : decode cX3_leave 82 = .ok (.invokevirtual 82, 3) := by decide +kernel
theorem dX3_leave_85 : decode cX3_leave 85 = .ok (.ireturn, 1) := by decide +kernel
theorem dX3_leave_86 : decode cX3_leave 86 = .ok (.aload_n 0, 1) := by decide +kernel
theorem dX3_leave_87 : decode cX3_leave 87 = .ok (.aload_n 0, 1) := by decide +kernel
theorem dX3_leave_88 : decode cX3_leave 88 = .ok (.getfield 33, 3) := by decide +kernel
theorem dX3_leave_91 : decode cX3_leave 91 = .ok (.aload_n 0, 1) := by decide +kernel
theorem dX3_leave_92 : decode cX3_leave 92 = .ok (.getfield 27, 3) := by decide +kernel
theorem dX3_leave_95 : decode cX3_leave 95 = .ok (.iconst 1, 1) := by decide +kernel
theorem dX3_leave_96 : decode cX3_leave 96 = .ok (.iaload, 1) := by decide +kernel
theorem dX3_leave_97 : decode cX3_leave 97 = .ok (.iload_n 1, 1) := by decide +kernel
theorem dX3_leave_98 : decode cX3_leave 98 = .ok (.invokevirtual 85, 3) := by decide +kernel
theorem dX3_leave_101 : decode cX3_leave 101 = .ok (.invokevirtual 82, 3) := by decide +kernel
theorem dX3_leave_104 : decode cX3_leave 104 = .ok (.ireturn, 1) := by decide +kernel
theorem dX3_leave_105 : decode cX3_leave 105 = .ok (.aload_n 0, 1) := by decide +kernel
theorem dX3_leave_106 : decode cX3_leave 106 = .ok (.aload_n 0, 1) := by decide +kernel
theorem dX3_leave_107 : decode cX3_leave 107 = .ok (.getfield 33, 3) := by decide +kernel
theorem dX3_leave_110 : decode cX3_leave 110 = .ok (.aload_n 0, 1) := by decide +kernel
theorem dX3_leave_111 : decode cX3_leave 111 = .ok (.getfield 27, 3) := by decide +kernel
theorem dX3_leave_114 : decode cX3_leave 114 = .ok (.iconst 1, 1) := by decide +kernel
theorem dX3_leave_115 : decode cX3_leave 115 = .ok (.iaload, 1) := by decide +kernel
theorem dX3_leave_116 : decode cX3_leave 116 = .ok (.iload_n 1, 1) := by decide +kernel
theorem dX3_leave_117 : decode cX3_leave 117 = .ok (.invokevirtual 88, 3) := by decide +kernel
theorem dX3_leave_120 : decode cX3_leave 120 = .ok (.invokevirtual 82, 3) := by decide +kernel
theorem dX3_leave_123 : decode cX3_leave 123 = .ok (.ireturn, 1) := by decide +kernel
theorem dX3_leave_124 : decode cX3_leave 124 = .ok (.aload_n 0, 1) := by decide +kernel
theorem dX3_leave_125 : decode cX3_leave 125 = .ok (.iload_n 2, 1) := by decide +kernel
theorem dX3_leave_126 : decode cX3_leave 126 = .ok (.iconst 1, 1) := by decide +kernel
theorem dX3_leave_127 : decode cX3_leave 127 = .ok (.iadd, 1) := by decide +kernel
theorem dX3_leave_128 : decode cX3_leave 128 = .ok (.iconst 2, 1) := by decide +kernel
theorem dX3_leave_129 : decode cX3_leave 129 = .ok (.idiv, 1) := by decide +kernel
theorem dX3_leave_130 : decode cX3_leave 130 = .ok (.aload_n 0, 1) := by decide +kernel
theorem dX3_leave_131 : decode cX3_leave 131 = .ok (.getfield 15, 3) := by decide +kernel
theorem dX3_leave_134 : decode cX3_leave 134 = .ok (.iload_n 1, 1) := by decide +kernel
theorem dX3_leave_135 : decode cX3_leave 135 = .ok (.iaload, 1) := by decide +kernel
theorem dX3_leave_136 : decode cX3_leave 136 = .ok (.iadd, 1) := by decide +kernel
theorem dX3_leave_137 : decode cX3_leave 137 = .ok (.invokevirtual 82, 3) := by decide +kernel
theorem dX3_leave_140 : decode cX3_leave 140 = .ok (.ireturn, 1) := by decide +kernel
theorem dX3_leave_141 : decode cX3_leave 141 = .ok (.aload_n 0, 1) := by decide +kernel
theorem dX3_leave_142 : decode cX3_leave 142 = .ok (.iload_n 2, 1) := by decide +kernel
theorem dX3_leave_143 : decode cX3_leave 143 = .ok (.invokevirtual 82, 3) := by decide +kernel
theorem dX3_leave_146 : decode cX3_leave 146 = .ok (.ireturn, 1) := by decide +kernel
theorem dX3_bounded_0 : decode cX3_bounded 0 = .ok (.aload_n 0, 1) := by decide +kernel
theorem dX3_bounded_1 : decode cX3_bounded 1 = .ok (.getfield 27, 3) := by decide +kernel
theorem dX3_bounded_4 : decode cX3_bounded 4 = .ok (.iconst 3, 1) := by decide +kernel
theorem dX3_bounded_5 : decode cX3_bounded 5 = .ok (.iaload, 1) := by decide +kernel
theorem dX3_bounded_6 : decode cX3_bounded 6 = .ok (.sipush 9999, 3) := by decide +kernel
theorem dX3_bounded_9 : decode cX3_bounded 9 = .ok (.iload_n 1, 1) := by decide +kernel
theorem dX3_bounded_10 : decode cX3_bounded 10 = .ok (.invokestatic 91, 3) := by decide +kernel
theorem dX3_bounded_13 : decode cX3_bounded 13 = .ok (.invokestatic 96, 3) := by decide +kernel
theorem dX3_bounded_16 : decode cX3_bounded 16 = .ok (.ireturn, 1) := by decide +kernel
theorem dX3_amountByKind_0 : decode cX3_amountByKind 0 = .ok (.aload_n 0, 1) := by decide +kernel
theorem dX3_amountByKind_1 : decode cX3_amountByKind 1 = .ok (.getfield 9, 3) := by decide +kernel
theorem dX3_amountByKind_4 : decode cX3_amountByKind 4 = .ok (.iload_n 1, 1) := by decide +kernel
theorem dX3_amountByKind_5 : decode cX3_amountByKind 5 = .ok (.iaload, 1) := by decide +kernel
theorem dX3_amountByKind_6 : decode cX3_amountByKind 6 = .ok (.tableswitch 125 0 7 #[125, 46, 53, 62, 46, 68, 46, 94], 46) := by decide +kernel
theorem dX3_amountByKind_52 : decode cX3_amountByKind 52 = .ok (.aload_n 0, 1) := by decide +kernel
theorem dX3_amountByKind_53 : decode cX3_amountByKind 53 = .ok (.getfield 21, 3) := by decide +kernel
theorem dX3_amountByKind_56 : decode cX3_amountByKind 56 = .ok (.iload_n 1, 1) := by decide +kernel
theorem dX3_amountByKind_57 : decode cX3_amountByKind 57 = .ok (.iaload, 1) := by decide +kernel
theorem dX3_amountByKind_58 : decode cX3_amountByKind 58 = .ok (.ireturn, 1) := by decide +kernel
theorem dX3_amountByKind_59 : decode cX3_amountByKind 59 = .ok (.aload_n 0, 1) := by decide +kernel
theorem dX3_amountByKind_60 : decode cX3_amountByKind 60 = .ok (.getfield 21, 3) := by decide +kernel
theorem dX3_amountByKind_63 : decode cX3_amountByKind 63 = .ok (.iload_n 1, 1) := by decide +kernel
theorem dX3_amountByKind_64 : decode cX3_amountByKind 64 = .ok (.iaload, 1) := by decide +kernel
theorem dX3_amountByKind_65 : decode cX3_amountByKind 65 = .ok (.iconst 2, 1) := by decide +kernel
theorem dX3_amountByKind_66 : decode cX3_amountByKind 66 = .ok (.idiv, 1) := by decide +kernel
theorem dX3_amountByKind_67 : decode cX3_amountByKind 67 = .ok (.ireturn, 1) := by decide +kernel
theorem dX3_amountByKind_68 : decode cX3_amountByKind 68 = .ok (.aload_n 0, 1) := by decide +kernel
theorem dX3_amountByKind_69 : decode cX3_amountByKind 69 = .ok (.iload_n 1, 1) := by decide +kernel
theorem dX3_amountByKind_70 : decode cX3_amountByKind 70 = .ok (.invokevirtual 99, 3) := by decide +kernel
theorem dX3_amountByKind_73 : decode cX3_amountByKind 73 = .ok (.ireturn, 1) := by decide +kernel
theorem dX3_amountByKind_74 : decode cX3_amountByKind 74 = .ok (.aload_n 0, 1) := by decide +kernel
theorem dX3_amountByKind_75 : decode cX3_amountByKind 75 = .ok (.getfield 51, 3) := by decide +kernel
theorem dX3_amountByKind_78 : decode cX3_amountByKind 78 = .ok (.bipush 10, 2) := by decide +kernel
theorem dX3_amountByKind_80 : decode cX3_amountByKind 80 = .ok (.aload_n 0, 1) := by decide +kernel
theorem dX3_amountByKind_81 : decode cX3_amountByKind 81 = .ok (.getfield 15, 3) := by decide +kernel
theorem dX3_amountByKind_84 : decode cX3_amountByKind 84 = .ok (.iload_n 1, 1) := by decide +kernel
theorem dX3_amountByKind_85 : decode cX3_amountByKind 85 = .ok (.iaload, 1) := by decide +kernel
theorem dX3_amountByKind_86 : decode cX3_amountByKind 86 = .ok (.imul, 1) := by decide +kernel
theorem dX3_amountByKind_87 : decode cX3_amountByKind 87 = .ok (.if_icmp .ge 11, 3) := by decide +kernel
theorem dX3_amountByKind_90 : decode cX3_amountByKind 90 = .ok (.aload_n 0, 1) := by decide +kernel
theorem dX3_amountByKind_91 : decode cX3_amountByKind 91 = .ok (.iload_n 1, 1) := by decide +kernel
theorem dX3_amountByKind_92 : decode cX3_amountByKind 92 = .ok (.invokevirtual 99, 3) := by decide +kernel
theorem dX3_amountByKind_95 : decode cX3_amountByKind 95 = .ok (.goto 4, 3) := by decide +kernel
theorem dX3_amountByKind_98 : decode cX3_amountByKind 98 = .ok (.iconst 0, 1) := by decide +kernel
theorem dX3_amountByKind_99 : decode cX3_amountByKind 99 = .ok (.ireturn, 1) := by decide +kernel
theorem dX3_amountByKind_100 : decode cX3_amountByKind 100 = .ok (.aload_n 0, 1) := by decide +kernel
theorem dX3_amountByKind_101 : decode cX3_amountByKind 101 = .ok (.getfield 15, 3) := by decide +kernel
theorem dX3_amountByKind_104 : decode cX3_amountByKind 104 = .ok (.iload_n 1, 1) := by decide +kernel
theorem dX3_amountByKind_105 : decode cX3_amountByKind 105 = .ok (.iaload, 1) := by decide +kernel
theorem dX3_amountByKind_106 : decode cX3_amountByKind 106 = .ok (.iconst 1, 1) := by decide +kernel
theorem dX3_amountByKind_107 : decode cX3_amountByKind 107 = .ok (.iadd, 1) := by decide +kernel
theorem dX3_amountByKind_108 : decode cX3_amountByKind 108 = .ok (.aload_n 0, 1) := by decide +kernel
theorem dX3_amountByKind_109 : decode cX3_amountByKind 109 = .ok (.getfield 51, 3) := by decide +kernel
theorem dX3_amountByKind_112 : decode cX3_amountByKind 112 = .ok (.invokestatic 102, 3) := by decide +kernel
theorem dX3_amountByKind_115 : decode cX3_amountByKind 115 = .ok (.ifCond .eq 14, 3) := by decide +kernel
theorem dX3_amountByKind_118 : decode cX3_amountByKind 118 = .ok (.aload_n 0, 1) := by decide +kernel
theorem dX3_amountByKind_119 : decode cX3_amountByKind 119 = .ok (.getfield 21, 3) := by decide +kernel
theorem dX3_amountByKind_122 : decode cX3_amountByKind 122 = .ok (.iload_n 1, 1) := by decide +kernel
theorem dX3_amountByKind_123 : decode cX3_amountByKind 123 = .ok (.iaload, 1) := by decide +kernel
theorem dX3_amountByKind_124 : decode cX3_amountByKind 124 = .ok (.iconst 2, 1) := by decide +kernel
theorem dX3_amountByKind_125 : decode cX3_amountByKind 125 = .ok (.idiv, 1) := by decide +kernel
theorem dX3_amountByKind_126 : decode cX3_amountByKind 126 = .ok (.goto 4, 3) := by decide +kernel
theorem dX3_amountByKind_129 : decode cX3_amountByKind 129 = .ok (.iconst 0, 1) := by decide +kernel
theorem dX3_amountByKind_130 : decode cX3_amountByKind 130 = .ok (.ireturn, 1) := by decide +kernel
theorem dX3_amountByKind_131 : decode cX3_amountByKind 131 = .ok (.iconst 0, 1) := by decide +kernel
theorem dX3_amountByKind_132 : decode cX3_amountByKind 132 = .ok (.ireturn, 1) := by decide +kernel
theorem dX3_whatGrew_0 : decode cX3_whatGrew 0 = .ok (.aload_n 0, 1) := by decide +kernel
theorem dX3_whatGrew_1 : decode cX3_whatGrew 1 = .ok (.getfield 21, 3) := by decide +kernel
theorem dX3_whatGrew_4 : decode cX3_whatGrew 4 = .ok (.iload_n 1, 1) := by decide +kernel
theorem dX3_whatGrew_5 : decode cX3_whatGrew 5 = .ok (.iaload, 1) := by decide +kernel
theorem dX3_whatGrew_6 : decode cX3_whatGrew 6 = .ok (.aload_n 0, 1) := by decide +kernel
theorem dX3_whatGrew_7 : decode cX3_whatGrew 7 = .ok (.getfield 24, 3) := by decide +kernel
theorem dX3_whatGrew_10 : decode cX3_whatGrew 10 = .ok (.iload_n 1, 1) := by decide +kernel
theorem dX3_whatGrew_11 : decode cX3_whatGrew 11 = .ok (.iaload, 1) := by decide +kernel
theorem dX3_whatGrew_12 : decode cX3_whatGrew 12 = .ok (.aload_n 0, 1) := by decide +kernel
theorem dX3_whatGrew_13 : decode cX3_whatGrew 13 = .ok (.getfield 33, 3) := by decide +kernel
theorem dX3_whatGrew_16 : decode cX3_whatGrew 16 = .ok (.iload_n 1, 1) := by decide +kernel
theorem dX3_whatGrew_17 : decode cX3_whatGrew 17 = .ok (.invokevirtual 106, 3) := by decide +kernel
theorem dX3_whatGrew_20 : decode cX3_whatGrew 20 = .ok (.iadd, 1) := by decide +kernel
theorem dX3_whatGrew_21 : decode cX3_whatGrew 21 = .ok (.invokestatic 91, 3) := by decide +kernel
theorem dX3_whatGrew_24 : decode cX3_whatGrew 24 = .ok (.ireturn, 1) := by decide +kernel
theorem dX3_divides_0 : decode cX3_divides 0 = .ok (.iload_n 0, 1) := by decide +kernel
theorem dX3_divides_1 : decode cX3_divides 1 = .ok (.ifCond .le 13, 3) := by decide +kernel
theorem dX3_divides_4 : decode cX3_divides 4 = .ok (.iload_n 1, 1) := by decide +kernel
theorem dX3_divides_5 : decode cX3_divides 5 = .ok (.iload_n 0, 1) := by decide +kernel
theorem dX3_divides_6 : decode cX3_divides 6 = .ok (.irem, 1) := by decide +kernel
theorem dX3_divides_7 : decode cX3_divides 7 = .ok (.ifCond .ne 7, 3) := by decide +kernel
theorem dX3_divides_10 : decode cX3_divides 10 = .ok (.iconst 1, 1) := by decide +kernel
theorem dX3_divides_11 : decode cX3_divides 11 = .ok (.goto 4, 3) := by decide +kernel
theorem dX3_divides_14 : decode cX3_divides 14 = .ok (.iconst 0, 1) := by decide +kernel
theorem dX3_divides_15 : decode cX3_divides 15 = .ok (.ireturn, 1) := by decide +kernel
theorem dX3_takerByKind_0 : decode cX3_takerByKind 0 = .ok (.aload_n 0, 1) := by decide +kernel
theorem dX3_takerByKind_1 : decode cX3_takerByKind 1 = .ok (.getfield 9, 3) := by decide +kernel
theorem dX3_takerByKind_4 : decode cX3_takerByKind 4 = .ok (.iload_n 1, 1) := by decide +kernel
theorem dX3_takerByKind_5 : decode cX3_takerByKind 5 = .ok (.iaload, 1) := by decide +kernel
theorem dX3_takerByKind_6 : decode cX3_takerByKind 6 = .ok (.iconst 4, 1) := by decide +kernel
theorem dX3_takerByKind_7 : decode cX3_takerByKind 7 = .ok (.if_icmp .ne 9, 3) := by decide +kernel
theorem dX3_takerByKind_10 : decode cX3_takerByKind 10 = .ok (.aload_n 0, 1) := by decide +kernel
theorem dX3_takerByKind_11 : decode cX3_takerByKind 11 = .ok (.iload_n 1, 1) := by decide +kernel
theorem dX3_takerByKind_12 : decode cX3_takerByKind 12 = .ok (.invokevirtual 109, 3) := by decide +kernel
theorem dX3_takerByKind_15 : decode cX3_takerByKind 15 = .ok (.ireturn, 1) := by decide +kernel
theorem dX3_takerByKind_16 : decode cX3_takerByKind 16 = .ok (.aload_n 0, 1) := by decide +kernel
theorem dX3_takerByKind_17 : decode cX3_takerByKind 17 = .ok (.getfield 9, 3) := by decide +kernel
theorem dX3_takerByKind_20 : decode cX3_takerByKind 20 = .ok (.iload_n 1, 1) := by decide +kernel
theorem dX3_takerByKind_21 : decode cX3_takerByKind 21 = .ok (.iaload, 1) := by decide +kernel
theorem dX3_takerByKind_22 : decode cX3_takerByKind 22 = .ok (.bipush 6, 2) := by decide +kernel
theorem dX3_takerByKind_24 : decode cX3_takerByKind 24 = .ok (.if_icmp .ne 18, 3) := by decide +kernel
theorem dX3_takerByKind_27 : decode cX3_takerByKind 27 = .ok (.aload_n 0, 1) := by decide +kernel
theorem dX3_takerByKind_28 : decode cX3_takerByKind 28 = .ok (.getfield 51, 3) := by decide +kernel
theorem dX3_takerByKind_31 : decode cX3_takerByKind 31 = .ok (.iconst 2, 1) := by decide +kernel
theorem dX3_takerByKind_32 : decode cX3_takerByKind 32 = .ok (.irem, 1) := by decide +kernel
theorem dX3_takerByKind_33 : decode cX3_takerByKind 33 = .ok (.iconst 1, 1) := by decide +kernel
theorem dX3_takerByKind_34 : decode cX3_takerByKind 34 = .ok (.if_icmp .ne 8, 3) := by decide +kernel
theorem dX3_takerByKind_37 : decode cX3_takerByKind 37 = .ok (.bipush 9, 2) := by decide +kernel
theorem dX3_takerByKind_39 : decode cX3_takerByKind 39 = .ok (.goto 9, 3) := by decide +kernel
theorem dX3_takerByKind_42 : decode cX3_takerByKind 42 = .ok (.aload_n 0, 1) := by decide +kernel
theorem dX3_takerByKind_43 : decode cX3_takerByKind 43 = .ok (.getfield 18, 3) := by decide +kernel
theorem dX3_takerByKind_46 : decode cX3_takerByKind 46 = .ok (.iload_n 1, 1) := by decide +kernel
theorem dX3_takerByKind_47 : decode cX3_takerByKind 47 = .ok (.iaload, 1) := by decide +kernel
theorem dX3_takerByKind_48 : decode cX3_takerByKind 48 = .ok (.ireturn, 1) := by decide +kernel
theorem dX3_giftByKind_0 : decode cX3_giftByKind 0 = .ok (.aload_n 0, 1) := by decide +kernel
theorem dX3_giftByKind_1 : decode cX3_giftByKind 1 = .ok (.iload_n 1, 1) := by decide +kernel
theorem dX3_giftByKind_2 : decode cX3_giftByKind 2 = .ok (.invokevirtual 112, 3) := by decide +kernel
theorem dX3_giftByKind_5 : decode cX3_giftByKind 5 = .ok (.iload_n 1, 1) := by decide +kernel
theorem dX3_giftByKind_6 : decode cX3_giftByKind 6 = .ok (.if_icmp .ne 7, 3) := by decide +kernel
theorem dX3_giftByKind_9 : decode cX3_giftByKind 9 = .ok (.iconst 0, 1) := by decide +kernel
theorem dX3_giftByKind_10 : decode cX3_giftByKind 10 = .ok (.goto 8, 3) := by decide +kernel
theorem dX3_giftByKind_13 : decode cX3_giftByKind 13 = .ok (.aload_n 0, 1) := by decide +kernel
theorem dX3_giftByKind_14 : decode cX3_giftByKind 14 = .ok (.iload_n 1, 1) := by decide +kernel
theorem dX3_giftByKind_15 : decode cX3_giftByKind 15 = .ok (.invokevirtual 115, 3) := by decide +kernel
theorem dX3_giftByKind_18 : decode cX3_giftByKind 18 = .ok (.ireturn, 1) := by decide +kernel
theorem dX3_nextOne_0 : decode cX3_nextOne 0 = .ok (.iload_n 1, 1) := by decide +kernel
theorem dX3_nextOne_1 : decode cX3_nextOne 1 = .ok (.iconst 1, 1) := by decide +kernel
theorem dX3_nextOne_2 : decode cX3_nextOne 2 = .ok (.iadd, 1) := by decide +kernel
theorem dX3_nextOne_3 : decode cX3_nextOne 3 = .ok (.aload_n 0, 1) := by decide +kernel
theorem dX3_nextOne_4 : decode cX3_nextOne 4 = .ok (.getfield 47, 3) := by decide +kernel
theorem dX3_nextOne_7 : decode cX3_nextOne 7 = .ok (.if_icmp .ge 9, 3) := by decide +kernel
theorem dX3_nextOne_10 : decode cX3_nextOne 10 = .ok (.iload_n 1, 1) := by decide +kernel
theorem dX3_nextOne_11 : decode cX3_nextOne 11 = .ok (.iconst 1, 1) := by decide +kernel
theorem dX3_nextOne_12 : decode cX3_nextOne 12 = .ok (.iadd, 1) := by decide +kernel
theorem dX3_nextOne_13 : decode cX3_nextOne 13 = .ok (.goto 4, 3) := by decide +kernel
theorem dX3_nextOne_16 : decode cX3_nextOne 16 = .ok (.iconst 0, 1) := by decide +kernel
theorem dX3_nextOne_17 : decode cX3_nextOne 17 = .ok (.ireturn, 1) := by decide +kernel
theorem dX3_giftRefusal_0 : decode cX3_giftRefusal 0 = .ok (.aload_n 0, 1) := by decide +kernel
theorem dX3_giftRefusal_1 : decode cX3_giftRefusal 1 = .ok (.iload_n 1, 1) := by decide +kernel
theorem dX3_giftRefusal_2 : decode cX3_giftRefusal 2 = .ok (.invokevirtual 118, 3) := by decide +kernel
theorem dX3_giftRefusal_5 : decode cX3_giftRefusal 5 = .ok (.ifCond .eq 22, 3) := by decide +kernel
theorem dX3_giftRefusal_8 : decode cX3_giftRefusal 8 = .ok (.iload_n 2, 1) := by decide +kernel
theorem dX3_giftRefusal_9 : decode cX3_giftRefusal 9 = .ok (.iload_n 1, 1) := by decide +kernel
theorem dX3_giftRefusal_10 : decode cX3_giftRefusal 10 = .ok (.if_icmp .eq 17, 3) := by decide +kernel
theorem dX3_giftRefusal_13 : decode cX3_giftRefusal 13 = .ok (.iload_n 2, 1) := by decide +kernel
theorem dX3_giftRefusal_14 : decode cX3_giftRefusal 14 = .ok (.bipush 9, 2) := by decide +kernel
theorem dX3_giftRefusal_16 : decode cX3_giftRefusal 16 = .ok (.if_icmp .eq 13, 3) := by decide +kernel
theorem dX3_giftRefusal_19 : decode cX3_giftRefusal 19 = .ok (.aload_n 0, 1) := by decide +kernel
theorem dX3_giftRefusal_20 : decode cX3_giftRefusal 20 = .ok (.iload_n 2, 1) := by decide +kernel
theorem dX3_giftRefusal_21 : decode cX3_giftRefusal 21 = .ok (.invokevirtual 118, 3) := by decide +kernel
theorem dX3_giftRefusal_24 : decode cX3_giftRefusal 24 = .ok (.ifCond .ne 5, 3) := by decide +kernel
theorem dX3_giftRefusal_27 : decode cX3_giftRefusal 27 = .ok (.iconst (-1), 1) := by decide +kernel
theorem dX3_giftRefusal_28 : decode cX3_giftRefusal 28 = .ok (.ireturn, 1) := by decide +kernel
theorem dX3_giftRefusal_29 : decode cX3_giftRefusal 29 = .ok (.iload_n 3, 1) := by decide +kernel
theorem dX3_giftRefusal_30 : decode cX3_giftRefusal 30 = .ok (.iconst 1, 1) := by decide +kernel
theorem dX3_giftRefusal_31 : decode cX3_giftRefusal 31 = .ok (.aload_n 0, 1) := by decide +kernel
theorem dX3_giftRefusal_32 : decode cX3_giftRefusal 32 = .ok (.getfield 21, 3) := by decide +kernel
theorem dX3_giftRefusal_35 : decode cX3_giftRefusal 35 = .ok (.iload_n 1, 1) := by decide +kernel
theorem dX3_giftRefusal_36 : decode cX3_giftRefusal 36 = .ok (.iaload, 1) := by decide +kernel
theorem dX3_giftRefusal_37 : decode cX3_giftRefusal 37 = .ok (.invokestatic 60, 3) := by decide +kernel
theorem dX3_giftRefusal_40 : decode cX3_giftRefusal 40 = .ok (.ireturn, 1) := by decide +kernel
theorem dX3_hand_0 : decode cX3_hand 0 = .ok (.aload_n 0, 1) := by decide +kernel
theorem dX3_hand_1 : decode cX3_hand 1 = .ok (.getfield 21, 3) := by decide +kernel
theorem dX3_hand_4 : decode cX3_hand 4 = .ok (.iload_n 1, 1) := by decide +kernel
theorem dX3_hand_5 : decode cX3_hand 5 = .ok (.dup2, 1) := by decide +kernel
theorem dX3_hand_6 : decode cX3_hand 6 = .ok (.iaload, 1) := by decide +kernel
theorem dX3_hand_7 : decode cX3_hand 7 = .ok (.iload_n 3, 1) := by decide +kernel
theorem dX3_hand_8 : decode cX3_hand 8 = .ok (.isub, 1) := by decide +kernel
theorem dX3_hand_9 : decode cX3_hand 9 = .ok (.iastore, 1) := by decide +kernel
theorem dX3_hand_10 : decode cX3_hand 10 = .ok (.aload_n 0, 1) := by decide +kernel
theorem dX3_hand_11 : decode cX3_hand 11 = .ok (.getfield 33, 3) := by decide +kernel
theorem dX3_hand_14 : decode cX3_hand 14 = .ok (.iload_n 1, 1) := by decide +kernel
theorem dX3_hand_15 : decode cX3_hand 15 = .ok (.iload_n 2, 1) := by decide +kernel
theorem dX3_hand_16 : decode cX3_hand 16 = .ok (.iload_n 3, 1) := by decide +kernel
theorem dX3_hand_17 : decode cX3_hand 17 = .ok (.invokevirtual 122, 3) := by decide +kernel
theorem dX3_hand_20 : decode cX3_hand 20 = .ok (.return_, 1) := by decide +kernel
theorem dX3_handIfAny_0 : decode cX3_handIfAny 0 = .ok (.iload_n 2, 1) := by decide +kernel
theorem dX3_handIfAny_1 : decode cX3_handIfAny 1 = .ok (.iload_n 1, 1) := by decide +kernel
theorem dX3_handIfAny_2 : decode cX3_handIfAny 2 = .ok (.if_icmp .eq 14, 3) := by decide +kernel
theorem dX3_handIfAny_5 : decode cX3_handIfAny 5 = .ok (.iload_n 3, 1) := by decide +kernel
theorem dX3_handIfAny_6 : decode cX3_handIfAny 6 = .ok (.ifCond .le 10, 3) := by decide +kernel
theorem dX3_handIfAny_9 : decode cX3_handIfAny 9 = .ok (.aload_n 0, 1) := by decide +kernel
theorem dX3_handIfAny_10 : decode cX3_handIfAny 10 = .ok (.iload_n 1, 1) := by decide +kernel
theorem dX3_handIfAny_11 : decode cX3_handIfAny 11 = .ok (.iload_n 2, 1) := by decide +kernel
theorem dX3_handIfAny_12 : decode cX3_handIfAny 12 = .ok (.iload_n 3, 1) := by decide +kernel
theorem dX3_handIfAny_13 : decode cX3_handIfAny 13 = .ok (.invokevirtual 126, 3) := by decide +kernel
theorem dX3_handIfAny_16 : decode cX3_handIfAny 16 = .ok (.return_, 1) := by decide +kernel
theorem dX3_passDays_0 : decode cX3_passDays 0 = .ok (.iconst 0, 1) := by decide +kernel
theorem dX3_passDays_1 : decode cX3_passDays 1 = .ok (.istore_n 2, 1) := by decide +kernel
theorem dX3_passDays_2 : decode cX3_passDays 2 = .ok (.iload_n 2, 1) := by decide +kernel
theorem dX3_passDays_3 : decode cX3_passDays 3 = .ok (.iload_n 1, 1) := by decide +kernel
theorem dX3_passDays_4 : decode cX3_passDays 4 = .ok (.if_icmp .ge 14, 3) := by decide +kernel
theorem dX3_passDays_7 : decode cX3_passDays 7 = .ok (.aload_n 0, 1) := by decide +kernel
theorem dX3_passDays_8 : decode cX3_passDays 8 = .ok (.invokevirtual 129, 3) := by decide +kernel
theorem dX3_passDays_11 : decode cX3_passDays 11 = .ok (.pop, 1) := by decide +kernel
theorem dX3_passDays_12 : decode cX3_passDays 12 = .ok (.iinc 2 1, 3) := by decide +kernel
theorem dX3_passDays_15 : decode cX3_passDays 15 = .ok (.goto (-13), 3) := by decide +kernel
theorem dX3_passDays_18 : decode cX3_passDays 18 = .ok (.return_, 1) := by decide +kernel
theorem dX3_passDay_0 : decode cX3_passDay 0 = .ok (.iconst 0, 1) := by decide +kernel
theorem dX3_passDay_1 : decode cX3_passDay 1 = .ok (.istore_n 1, 1) := by decide +kernel
theorem dX3_passDay_2 : decode cX3_passDay 2 = .ok (.iload_n 1, 1) := by decide +kernel
theorem dX3_passDay_3 : decode cX3_passDay 3 = .ok (.aload_n 0, 1) := by decide +kernel
theorem dX3_passDay_4 : decode cX3_passDay 4 = .ok (.getfield 47, 3) := by decide +kernel
theorem dX3_passDay_7 : decode cX3_passDay 7 = .ok (.if_icmp .ge 24, 3) := by decide +kernel
theorem dX3_passDay_10 : decode cX3_passDay 10 = .ok (.aload_n 0, 1) := by decide +kernel
theorem dX3_passDay_11 : decode cX3_passDay 11 = .ok (.iload_n 1, 1) := by decide +kernel
theorem dX3_passDay_12 : decode cX3_passDay 12 = .ok (.aload_n 0, 1) := by decide +kernel
theorem dX3_passDay_13 : decode cX3_passDay 13 = .ok (.iload_n 1, 1) := by decide +kernel
theorem dX3_passDay_14 : decode cX3_passDay 14 = .ok (.invokevirtual 112, 3) := by decide +kernel
theorem dX3_passDay_17 : decode cX3_passDay 17 = .ok (.aload_n 0, 1) := by decide +kernel
theorem dX3_passDay_18 : decode cX3_passDay 18 = .ok (.iload_n 1, 1) := by decide +kernel
theorem dX3_passDay_19 : decode cX3_passDay 19 = .ok (.invokevirtual 115, 3) := by decide +kernel
theorem dX3_passDay_22 : decode cX3_passDay 22 = .ok (.invokevirtual 133, 3) := by decide +kernel
theorem dX3_passDay_25 : decode cX3_passDay 25 = .ok (.iinc 1 1, 3) := by decide +kernel
theorem dX3_passDay_28 : decode cX3_passDay 28 = .ok (.goto (-26), 3) := by decide +kernel
theorem dX3_passDay_31 : decode cX3_passDay 31 = .ok (.aload_n 0, 1) := by decide +kernel
theorem dX3_passDay_32 : decode cX3_passDay 32 = .ok (.invokevirtual 136, 3) := by decide +kernel
theorem dX3_passDay_35 : decode cX3_passDay 35 = .ok (.ireturn, 1) := by decide +kernel
theorem dX3_passDayOfOne_0 : decode cX3_passDayOfOne 0 = .ok (.iconst 0, 1) := by decide +kernel
theorem dX3_passDayOfOne_1 : decode cX3_passDayOfOne 1 = .ok (.istore_n 3, 1) := by decide +kernel
theorem dX3_passDayOfOne_2 : decode cX3_passDayOfOne 2 = .ok (.iload_n 3, 1) := by decide +kernel
theorem dX3_passDayOfOne_3 : decode cX3_passDayOfOne 3 = .ok (.aload_n 0, 1) := by decide +kernel
theorem dX3_passDayOfOne_4 : decode cX3_passDayOfOne 4 = .ok (.getfield 47, 3) := by decide +kernel
theorem dX3_passDayOfOne_7 : decode cX3_passDayOfOne 7 = .ok (.if_icmp .ge 59, 3) := by decide +kernel
theorem dX3_passDayOfOne_10 : decode cX3_passDayOfOne 10 = .ok (.iload_n 3, 1) := by decide +kernel
theorem dX3_passDayOfOne_11 : decode cX3_passDayOfOne 11 = .ok (.iload_n 1, 1) := by decide +kernel
theorem dX3_passDayOfOne_12 : decode cX3_passDayOfOne 12 = .ok (.if_icmp .ne 33, 3) := by decide +kernel
theorem dX3_passDayOfOne_15 : decode cX3_passDayOfOne 15 = .ok (.aload_n 0, 1) := by decide +kernel
theorem dX3_passDayOfOne_16 : decode cX3_passDayOfOne 16 = .ok (.iload_n 3, 1) := by decide +kernel
theorem dX3_passDayOfOne_17 : decode cX3_passDayOfOne 17 = .ok (.aload_n 0, 1) := by decide +kernel
theorem dX3_passDayOfOne_18 : decode cX3_passDayOfOne 18 = .ok (.getfield 18, 3) := by decide +kernel
theorem dX3_passDayOfOne_21 : decode cX3_passDayOfOne 21 = .ok (.iload_n 3, 1) := by decide +kernel
theorem dX3_passDayOfOne_22 : decode cX3_passDayOfOne 22 = .ok (.iaload, 1) := by decide +kernel
theorem dX3_passDayOfOne_23 : decode cX3_passDayOfOne 23 = .ok (.iload_n 3, 1) := by decide +kernel
theorem dX3_passDayOfOne_24 : decode cX3_passDayOfOne 24 = .ok (.if_icmp .ne 8, 3) := by decide +kernel
theorem dX3_passDayOfOne_27 : decode cX3_passDayOfOne 27 = .ok (.bipush 9, 2) := by decide +kernel
theorem dX3_passDayOfOne_29 : decode cX3_passDayOfOne 29 = .ok (.goto 9, 3) := by decide +kernel
theorem dX3_passDayOfOne_32 : decode cX3_passDayOfOne 32 = .ok (.aload_n 0, 1) := by decide +kernel
theorem dX3_passDayOfOne_33 : decode cX3_passDayOfOne 33 = .ok (.getfield 18, 3) := by decide +kernel
theorem dX3_passDayOfOne_36 : decode cX3_passDayOfOne 36 = .ok (.iload_n 3, 1) := by decide +kernel
theorem dX3_passDayOfOne_37 : decode cX3_passDayOfOne 37 = .ok (.iaload, 1) := by decide +kernel
theorem dX3_passDayOfOne_38 : decode cX3_passDayOfOne 38 = .ok (.iload_n 2, 1) := by decide +kernel
theorem dX3_passDayOfOne_39 : decode cX3_passDayOfOne 39 = .ok (.invokevirtual 133, 3) := by decide +kernel
theorem dX3_passDayOfOne_42 : decode cX3_passDayOfOne 42 = .ok (.goto 18, 3) := by decide +kernel
theorem dX3_passDayOfOne_45 : decode cX3_passDayOfOne 45 = .ok (.aload_n 0, 1) := by decide +kernel
theorem dX3_passDayOfOne_46 : decode cX3_passDayOfOne 46 = .ok (.iload_n 3, 1) := by decide +kernel
theorem dX3_passDayOfOne_47 : decode cX3_passDayOfOne 47 = .ok (.aload_n 0, 1) := by decide +kernel
theorem dX3_passDayOfOne_48 : decode cX3_passDayOfOne 48 = .ok (.iload_n 3, 1) := by decide +kernel
theorem dX3_passDayOfOne_49 : decode cX3_passDayOfOne 49 = .ok (.invokevirtual 112, 3) := by decide +kernel
theorem dX3_passDayOfOne_52 : decode cX3_passDayOfOne 52 = .ok (.aload_n 0, 1) := by decide +kernel
theorem dX3_passDayOfOne_53 : decode cX3_passDayOfOne 53 = .ok (.iload_n 3, 1) := by decide +kernel
theorem dX3_passDayOfOne_54 : decode cX3_passDayOfOne 54 = .ok (.invokevirtual 115, 3) := by decide +kernel
theorem dX3_passDayOfOne_57 : decode cX3_passDayOfOne 57 = .ok (.invokevirtual 133, 3) := by decide +kernel
theorem dX3_passDayOfOne_60 : decode cX3_passDayOfOne 60 = .ok (.iinc 3 1, 3) := by decide +kernel
theorem dX3_passDayOfOne_63 : decode cX3_passDayOfOne 63 = .ok (.goto (-61), 3) := by decide +kernel
theorem dX3_passDayOfOne_66 : decode cX3_passDayOfOne 66 = .ok (.aload_n 0, 1) := by decide +kernel
theorem dX3_passDayOfOne_67 : decode cX3_passDayOfOne 67 = .ok (.invokevirtual 136, 3) := by decide +kernel
theorem dX3_passDayOfOne_70 : decode cX3_passDayOfOne 70 = .ok (.pop, 1) := by decide +kernel
theorem dX3_passDayOfOne_71 : decode cX3_passDayOfOne 71 = .ok (.return_, 1) := by decide +kernel
theorem dX3_endDay_0 : decode cX3_endDay 0 = .ok (.iconst 0, 1) := by decide +kernel
theorem dX3_endDay_1 : decode cX3_endDay 1 = .ok (.istore_n 1, 1) := by decide +kernel
theorem dX3_endDay_2 : decode cX3_endDay 2 = .ok (.iconst 0, 1) := by decide +kernel
theorem dX3_endDay_3 : decode cX3_endDay 3 = .ok (.istore_n 2, 1) := by decide +kernel
theorem dX3_endDay_4 : decode cX3_endDay 4 = .ok (.iload_n 2, 1) := by decide +kernel
theorem dX3_endDay_5 : decode cX3_endDay 5 = .ok (.aload_n 0, 1) := by decide +kernel
theorem dX3_endDay_6 : decode cX3_endDay 6 = .ok (.getfield 47, 3) := by decide +kernel
theorem dX3_endDay_9 : decode cX3_endDay 9 = .ok (.if_icmp .ge 71, 3) := by decide +kernel
theorem dX3_endDay_12 : decode cX3_endDay 12 = .ok (.aload_n 0, 1) := by decide +kernel
theorem dX3_endDay_13 : decode cX3_endDay 13 = .ok (.getfield 33, 3) := by decide +kernel
theorem dX3_endDay_16 : decode cX3_endDay 16 = .ok (.iload_n 2, 1) := by decide +kernel
theorem dX3_endDay_17 : decode cX3_endDay 17 = .ok (.invokevirtual 72, 3) := by decide +kernel
theorem dX3_endDay_20 : decode cX3_endDay 20 = .ok (.aload_n 0, 1) := by decide +kernel
theorem dX3_endDay_21 : decode cX3_endDay 21 = .ok (.getfield 24, 3) := by decide +kernel
theorem dX3_endDay_24 : decode cX3_endDay 24 = .ok (.iload_n 2, 1) := by decide +kernel
theorem dX3_endDay_25 : decode cX3_endDay 25 = .ok (.iaload, 1) := by decide +kernel
theorem dX3_endDay_26 : decode cX3_endDay 26 = .ok (.iadd, 1) := by decide +kernel
theorem dX3_endDay_27 : decode cX3_endDay 27 = .ok (.istore_n 3, 1) := by decide +kernel
theorem dX3_endDay_28 : decode cX3_endDay 28 = .ok (.aload_n 0, 1) := by decide +kernel
theorem dX3_endDay_29 : decode cX3_endDay 29 = .ok (.getfield 21, 3) := by decide +kernel
theorem dX3_endDay_32 : decode cX3_endDay 32 = .ok (.iload_n 2, 1) := by decide +kernel
theorem dX3_endDay_33 : decode cX3_endDay 33 = .ok (.iaload, 1) := by decide +kernel
theorem dX3_endDay_34 : decode cX3_endDay 34 = .ok (.iload_n 3, 1) := by decide +kernel
theorem dX3_endDay_35 : decode cX3_endDay 35 = .ok (.aload_n 0, 1) := by decide +kernel
theorem dX3_endDay_36 : decode cX3_endDay 36 = .ok (.iload_n 2, 1) := by decide +kernel
theorem dX3_endDay_37 : decode cX3_endDay 37 = .ok (.invokevirtual 139, 3) := by decide +kernel
theorem dX3_endDay_40 : decode cX3_endDay 40 = .ok (.invokestatic 91, 3) := by decide +kernel
theorem dX3_endDay_43 : decode cX3_endDay 43 = .ok (.iadd, 1) := by decide +kernel
theorem dX3_endDay_44 : decode cX3_endDay 44 = .ok (.sipush 9999, 3) := by decide +kernel
theorem dX3_endDay_47 : decode cX3_endDay 47 = .ok (.invokestatic 91, 3) := by decide +kernel
theorem dX3_endDay_50 : decode cX3_endDay 50 = .ok (.istore 4, 2) := by decide +kernel
theorem dX3_endDay_52 : decode cX3_endDay 52 = .ok (.iload_n 1, 1) := by decide +kernel
theorem dX3_endDay_53 : decode cX3_endDay 53 = .ok (.iload_n 3, 1) := by decide +kernel
theorem dX3_endDay_54 : decode cX3_endDay 54 = .ok (.iload 4, 2) := by decide +kernel
theorem dX3_endDay_56 : decode cX3_endDay 56 = .ok (.aload_n 0, 1) := by decide +kernel
theorem dX3_endDay_57 : decode cX3_endDay 57 = .ok (.getfield 21, 3) := by decide +kernel
theorem dX3_endDay_60 : decode cX3_endDay 60 = .ok (.iload_n 2, 1) := by decide +kernel
theorem dX3_endDay_61 : decode cX3_endDay 61 = .ok (.iaload, 1) := by decide +kernel
theorem dX3_endDay_62 : decode cX3_endDay 62 = .ok (.isub, 1) := by decide +kernel
theorem dX3_endDay_63 : decode cX3_endDay 63 = .ok (.isub, 1) := by decide +kernel
theorem dX3_endDay_64 : decode cX3_endDay 64 = .ok (.iadd, 1) := by decide +kernel
theorem dX3_endDay_65 : decode cX3_endDay 65 = .ok (.istore_n 1, 1) := by decide +kernel
theorem dX3_endDay_66 : decode cX3_endDay 66 = .ok (.aload_n 0, 1) := by decide +kernel
theorem dX3_endDay_67 : decode cX3_endDay 67 = .ok (.getfield 21, 3) := by decide +kernel
theorem dX3_endDay_70 : decode cX3_endDay 70 = .ok (.iload_n 2, 1) := by decide +kernel
theorem dX3_endDay_71 : decode cX3_endDay 71 = .ok (.iload 4, 2) := by decide +kernel
theorem dX3_endDay_73 : decode cX3_endDay 73 = .ok (.iastore, 1) := by decide +kernel
theorem dX3_endDay_74 : decode cX3_endDay 74 = .ok (.iinc 2 1, 3) := by decide +kernel
theorem dX3_endDay_77 : decode cX3_endDay 77 = .ok (.goto (-73), 3) := by decide +kernel
theorem dX3_endDay_80 : decode cX3_endDay 80 = .ok (.aload_n 0, 1) := by decide +kernel
theorem dX3_endDay_81 : decode cX3_endDay 81 = .ok (.getfield 33, 3) := by decide +kernel
theorem dX3_endDay_84 : decode cX3_endDay 84 = .ok (.iconst 0, 1) := by decide +kernel
theorem dX3_endDay_85 : decode cX3_endDay 85 = .ok (.aload_n 0, 1) := by decide +kernel
theorem dX3_endDay_86 : decode cX3_endDay 86 = .ok (.getfield 27, 3) := by decide +kernel
theorem dX3_endDay_89 : decode cX3_endDay 89 = .ok (.iconst 2, 1) := by decide +kernel
theorem dX3_endDay_90 : decode cX3_endDay 90 = .ok (.iaload, 1) := by decide +kernel
theorem dX3_endDay_91 : decode cX3_endDay 91 = .ok (.invokevirtual 142, 3) := by decide +kernel
theorem dX3_endDay_94 : decode cX3_endDay 94 = .ok (.aload_n 0, 1) := by decide +kernel
theorem dX3_endDay_95 : decode cX3_endDay 95 = .ok (.getfield 33, 3) := by decide +kernel
theorem dX3_endDay_98 : decode cX3_endDay 98 = .ok (.invokevirtual 146, 3) := by decide +kernel
theorem dX3_endDay_101 : decode cX3_endDay 101 = .ok (.aload_n 0, 1) := by decide +kernel
theorem dX3_endDay_102 : decode cX3_endDay 102 = .ok (.dup, 1) := by decide +kernel
theorem dX3_endDay_103 : decode cX3_endDay 103 = .ok (.getfield 51, 3) := by decide +kernel
theorem dX3_endDay_106 : decode cX3_endDay 106 = .ok (.iconst 1, 1) := by decide +kernel
theorem dX3_endDay_107 : decode cX3_endDay 107 = .ok (.iadd, 1) := by decide +kernel
theorem dX3_endDay_108 : decode cX3_endDay 108 = .ok (.putfield 51, 3) := by decide +kernel
theorem dX3_endDay_111 : decode cX3_endDay 111 = .ok (.iload_n 1, 1) := by decide +kernel
theorem dX3_endDay_112 : decode cX3_endDay 112 = .ok (.ireturn, 1) := by decide +kernel
theorem dX3_whoCannotBegin_0 : decode cX3_whoCannotBegin 0 = .ok (.iconst 0, 1) := by decide +kernel
theorem dX3_whoCannotBegin_1 : decode cX3_whoCannotBegin 1 = .ok (.istore_n 1, 1) := by decide +kernel
theorem dX3_whoCannotBegin_2 : decode cX3_whoCannotBegin 2 = .ok (.iconst 0, 1) := by decide +kernel
theorem dX3_whoCannotBegin_3 : decode cX3_whoCannotBegin 3 = .ok (.istore_n 2, 1) := by decide +kernel
theorem dX3_whoCannotBegin_4 : decode cX3_whoCannotBegin 4 = .ok (.iload_n 2, 1) := by decide +kernel
theorem dX3_whoCannotBegin_5 : decode cX3_whoCannotBegin 5 = .ok (.aload_n 0, 1) := by decide +kernel
theorem dX3_whoCannotBegin_6 : decode cX3_whoCannotBegin 6 = .ok (.getfield 47, 3) := by decide +kernel
theorem dX3_whoCannotBegin_9 : decode cX3_whoCannotBegin 9 = .ok (.if_icmp .ge 59, 3) := by decide +kernel
theorem dX3_whoCannotBegin_12 : decode cX3_whoCannotBegin 12 = .ok (.aload_n 0, 1) := by decide +kernel
theorem dX3_whoCannotBegin_13 : decode cX3_whoCannotBegin 13 = .ok (.getfield 24, 3) := by decide +kernel
theorem dX3_whoCannotBegin_16 : decode cX3_whoCannotBegin 16 = .ok (.iload_n 2, 1) := by decide +kernel
theorem dX3_whoCannotBegin_17 : decode cX3_whoCannotBegin 17 = .ok (.iaload, 1) := by decide +kernel
theorem dX3_whoCannotBegin_18 : decode cX3_whoCannotBegin 18 = .ok (.ifCond .eq 11, 3) := by decide +kernel
theorem dX3_whoCannotBegin_21 : decode cX3_whoCannotBegin 21 = .ok (.aload_n 0, 1) := by decide +kernel
theorem dX3_whoCannotBegin_22 : decode cX3_whoCannotBegin 22 = .ok (.iload_n 2, 1) := by decide +kernel
theorem dX3_whoCannotBegin_23 : decode cX3_whoCannotBegin 23 = .ok (.invokevirtual 139, 3) := by decide +kernel
theorem dX3_whoCannotBegin_26 : decode cX3_whoCannotBegin 26 = .ok (.ifCond .ne 7, 3) := by decide +kernel
theorem dX3_whoCannotBegin_29 : decode cX3_whoCannotBegin 29 = .ok (.iconst 1, 1) := by decide +kernel
theorem dX3_whoCannotBegin_30 : decode cX3_whoCannotBegin 30 = .ok (.goto 4, 3) := by decide +kernel
theorem dX3_whoCannotBegin_33 : decode cX3_whoCannotBegin 33 = .ok (.iconst 0, 1) := by decide +kernel
theorem dX3_whoCannotBegin_34 : decode cX3_whoCannotBegin 34 = .ok (.istore_n 3, 1) := by decide +kernel
theorem dX3_whoCannotBegin_35 : decode cX3_whoCannotBegin 35 = .ok (.aload_n 0, 1) := by decide +kernel
theorem dX3_whoCannotBegin_36 : decode cX3_whoCannotBegin 36 = .ok (.getfield 21, 3) := by decide +kernel
theorem dX3_whoCannotBegin_39 : decode cX3_whoCannotBegin 39 = .ok (.iload_n 2, 1) := by decide +kernel
theorem dX3_whoCannotBegin_40 : decode cX3_whoCannotBegin 40 = .ok (.iaload, 1) := by decide +kernel
theorem dX3_whoCannotBegin_41 : decode cX3_whoCannotBegin 41 = .ok (.ifCond .ne 21, 3) := by decide +kernel
theorem dX3_whoCannotBegin_44 : decode cX3_whoCannotBegin 44 = .ok (.iload_n 3, 1) := by decide +kernel
theorem dX3_whoCannotBegin_45 : decode cX3_whoCannotBegin 45 = .ok (.ifCond .eq 17, 3) := by decide +kernel
theorem dX3_whoCannotBegin_48 : decode cX3_whoCannotBegin 48 = .ok (.aload_n 0, 1) := by decide +kernel
theorem dX3_whoCannotBegin_49 : decode cX3_whoCannotBegin 49 = .ok (.iload_n 2, 1) := by decide +kernel
theorem dX3_whoCannotBegin_50 : decode cX3_whoCannotBegin 50 = .ok (.invokevirtual 149, 3) := by decide +kernel
theorem dX3_whoCannotBegin_53 : decode cX3_whoCannotBegin 53 = .ok (.ifCond .ne 9, 3) := by decide +kernel
theorem dX3_whoCannotBegin_56 : decode cX3_whoCannotBegin 56 = .ok (.iload_n 1, 1) := by decide +kernel
theorem dX3_whoCannotBegin_57 : decode cX3_whoCannotBegin 57 = .ok (.iconst 1, 1) := by decide +kernel
theorem dX3_whoCannotBegin_58 : decode cX3_whoCannotBegin 58 = .ok (.iload_n 2, 1) := by decide +kernel
theorem dX3_whoCannotBegin_59 : decode cX3_whoCannotBegin 59 = .ok (.ishl, 1) := by decide +kernel
theorem dX3_whoCannotBegin_60 : decode cX3_whoCannotBegin 60 = .ok (.ior, 1) := by decide +kernel
theorem dX3_whoCannotBegin_61 : decode cX3_whoCannotBegin 61 = .ok (.istore_n 1, 1) := by decide +kernel
theorem dX3_whoCannotBegin_62 : decode cX3_whoCannotBegin 62 = .ok (.iinc 2 1, 3) := by decide +kernel
theorem dX3_whoCannotBegin_65 : decode cX3_whoCannotBegin 65 = .ok (.goto (-61), 3) := by decide +kernel
theorem dX3_whoCannotBegin_68 : decode cX3_whoCannotBegin 68 = .ok (.iload_n 1, 1) := by decide +kernel
theorem dX3_whoCannotBegin_69 : decode cX3_whoCannotBegin 69 = .ok (.ireturn, 1) := by decide +kernel
theorem dX3_isSomebodysTaker_0 : decode cX3_isSomebodysTaker 0 = .ok (.iconst 0, 1) := by decide +kernel
theorem dX3_isSomebodysTaker_1 : decode cX3_isSomebodysTaker 1 = .ok (.istore_n 2, 1) := by decide +kernel
theorem dX3_isSomebodysTaker_2 : decode cX3_isSomebodysTaker 2 = .ok (.iload_n 2, 1) := by decide +kernel
theorem dX3_isSomebodysTaker_3 : decode cX3_isSomebodysTaker 3 = .ok (.aload_n 0, 1) := by decide +kernel
theorem dX3_isSomebodysTaker_4 : decode cX3_isSomebodysTaker 4 = .ok (.getfield 47, 3) := by decide +kernel
theorem dX3_isSomebodysTaker_7 : decode cX3_isSomebodysTaker 7 = .ok (.if_icmp .ge 55, 3) := by decide +kernel
theorem dX3_isSomebodysTaker_10 : decode cX3_isSomebodysTaker 10 = .ok (.aload_n 0, 1) := by decide +kernel
theorem dX3_isSomebodysTaker_11 : decode cX3_isSomebodysTaker 11 = .ok (.getfield 9, 3) := by decide +kernel
theorem dX3_isSomebodysTaker_14 : decode cX3_isSomebodysTaker 14 = .ok (.iload_n 2, 1) := by decide +kernel
theorem dX3_isSomebodysTaker_15 : decode cX3_isSomebodysTaker 15 = .ok (.iaload, 1) := by decide +kernel
theorem dX3_isSomebodysTaker_16 : decode cX3_isSomebodysTaker 16 = .ok (.iconst 4, 1) := by decide +kernel
theorem dX3_isSomebodysTaker_17 : decode cX3_isSomebodysTaker 17 = .ok (.if_icmp .ne 11, 3) := by decide +kernel
theorem dX3_isSomebodysTaker_20 : decode cX3_isSomebodysTaker 20 = .ok (.aload_n 0, 1) := by decide +kernel
theorem dX3_isSomebodysTaker_21 : decode cX3_isSomebodysTaker 21 = .ok (.iload_n 2, 1) := by decide +kernel
theorem dX3_isSomebodysTaker_22 : decode cX3_isSomebodysTaker 22 = .ok (.invokevirtual 109, 3) := by decide +kernel
theorem dX3_isSomebodysTaker_25 : decode cX3_isSomebodysTaker 25 = .ok (.goto 9, 3) := by decide +kernel
theorem dX3_isSomebodysTaker_28 : decode cX3_isSomebodysTaker 28 = .ok (.aload_n 0, 1) := by decide +kernel
theorem dX3_isSomebodysTaker_29 : decode cX3_isSomebodysTaker 29 = .ok (.getfield 18, 3) := by decide +kernel
theorem dX3_isSomebodysTaker_32 : decode cX3_isSomebodysTaker 32 = .ok (.iload_n 2, 1) := by decide +kernel
theorem dX3_isSomebodysTaker_33 : decode cX3_isSomebodysTaker 33 = .ok (.iaload, 1) := by decide +kernel
theorem dX3_isSomebodysTaker_34 : decode cX3_isSomebodysTaker 34 = .ok (.istore_n 3, 1) := by decide +kernel
theorem dX3_isSomebodysTaker_35 : decode cX3_isSomebodysTaker 35 = .ok (.iload_n 2, 1) := by decide +kernel
theorem dX3_isSomebodysTaker_36 : decode cX3_isSomebodysTaker 36 = .ok (.iload_n 1, 1) := by decide +kernel
theorem dX3_isSomebodysTaker_37 : decode cX3_isSomebodysTaker 37 = .ok (.if_icmp .eq 19, 3) := by decide +kernel
theorem dX3_isSomebodysTaker_40 : decode cX3_isSomebodysTaker 40 = .ok (.aload_n 0, 1) := by decide +kernel
theorem dX3_isSomebodysTaker_41 : decode cX3_isSomebodysTaker 41 = .ok (.getfield 21, 3) := by decide +kernel
theorem dX3_isSomebodysTaker_44 : decode cX3_isSomebodysTaker 44 = .ok (.iload_n 2, 1) := by decide +kernel
theorem dX3_isSomebodysTaker_45 : decode cX3_isSomebodysTaker 45 = .ok (.iaload, 1) := by decide +kernel
theorem dX3_isSomebodysTaker_46 : decode cX3_isSomebodysTaker 46 = .ok (.ifCond .le 10, 3) := by decide +kernel
theorem dX3_isSomebodysTaker_49 : decode cX3_isSomebodysTaker 49 = .ok (.iload_n 3, 1) := by decide +kernel
theorem dX3_isSomebodysTaker_50 : decode cX3_isSomebodysTaker 50 = .ok (.iload_n 1, 1) := by decide +kernel
theorem dX3_isSomebodysTaker_51 : decode cX3_isSomebodysTaker 51 = .ok (.if_icmp .ne 5, 3) := by decide +kernel
theorem dX3_isSomebodysTaker_54 : decode cX3_isSomebodysTaker 54 = .ok (.iconst 1, 1) := by decide +kernel
theorem dX3_isSomebodysTaker_55 : decode cX3_isSomebodysTaker 55 = .ok (.ireturn, 1) := by decide +kernel
theorem dX3_isSomebodysTaker_56 : decode cX3_isSomebodysTaker 56 = .ok (.iinc 2 1, 3) := by decide +kernel
theorem dX3_isSomebodysTaker_59 : decode cX3_isSomebodysTaker 59 = .ok (.goto (-57), 3) := by decide +kernel
theorem dX3_isSomebodysTaker_62 : decode cX3_isSomebodysTaker 62 = .ok (.iconst 0, 1) := by decide +kernel
theorem dX3_isSomebodysTaker_63 : decode cX3_isSomebodysTaker 63 = .ok (.ireturn, 1) := by decide +kernel
theorem dX3_find_0 : decode cX3_find 0 = .ok (.aload_n 0, 1) := by decide +kernel
theorem dX3_find_1 : decode cX3_find 1 = .ok (.iload_n 1, 1) := by decide +kernel
theorem dX3_find_2 : decode cX3_find 2 = .ok (.invokevirtual 118, 3) := by decide +kernel
theorem dX3_find_5 : decode cX3_find 5 = .ok (.ifCond .eq 23, 3) := by decide +kernel
theorem dX3_find_8 : decode cX3_find 8 = .ok (.aload_n 0, 1) := by decide +kernel
theorem dX3_find_9 : decode cX3_find 9 = .ok (.getfield 21, 3) := by decide +kernel
theorem dX3_find_12 : decode cX3_find 12 = .ok (.iload_n 1, 1) := by decide +kernel
theorem dX3_find_13 : decode cX3_find 13 = .ok (.sipush 9999, 3) := by decide +kernel
theorem dX3_find_16 : decode cX3_find 16 = .ok (.aload_n 0, 1) := by decide +kernel
theorem dX3_find_17 : decode cX3_find 17 = .ok (.getfield 21, 3) := by decide +kernel
theorem dX3_find_20 : decode cX3_find 20 = .ok (.iload_n 1, 1) := by decide +kernel
theorem dX3_find_21 : decode cX3_find 21 = .ok (.iaload, 1) := by decide +kernel
theorem dX3_find_22 : decode cX3_find 22 = .ok (.iload_n 2, 1) := by decide +kernel
theorem dX3_find_23 : decode cX3_find 23 = .ok (.iadd, 1) := by decide +kernel
theorem dX3_find_24 : decode cX3_find 24 = .ok (.invokestatic 91, 3) := by decide +kernel
theorem dX3_find_27 : decode cX3_find 27 = .ok (.iastore, 1) := by decide +kernel
theorem dX3_find_28 : decode cX3_find 28 = .ok (.return_, 1) := by decide +kernel
theorem dX4_init_0 : decode cX4_init 0 = .ok (.aload_n 0, 1) := by decide +kernel
theorem dX4_init_1 : decode cX4_init 1 = .ok (.invokespecial 1, 3) := by decide +kernel
theorem dX4_init_4 : decode cX4_init 4 = .ok (.aload_n 0, 1) := by decide +kernel
theorem dX4_init_5 : decode cX4_init 5 = .ok (.new 7, 3) := by decide +kernel
theorem dX4_init_8 : decode cX4_init 8 = .ok (.dup, 1) := by decide +kernel
theorem dX4_init_9 : decode cX4_init 9 = .ok (.invokespecial 9, 3) := by decide +kernel
theorem dX4_init_12 : decode cX4_init 12 = .ok (.putfield 10, 3) := by decide +kernel
theorem dX4_init_15 : decode cX4_init 15 = .ok (.aload_n 0, 1) := by decide +kernel
theorem dX4_init_16 : decode cX4_init 16 = .ok (.new 7, 3) := by decide +kernel
theorem dX4_init_19 : decode cX4_init 19 = .ok (.dup, 1) := by decide +kernel
theorem dX4_init_20 : decode cX4_init 20 = .ok (.invokespecial 9, 3) := by decide +kernel
theorem dX4_init_23 : decode cX4_init 23 = .ok (.putfield 16, 3) := by decide +kernel
theorem dX4_init_26 : decode cX4_init 26 = .ok (.aload_n 0, 1) := by decide +kernel
theorem dX4_init_27 : decode cX4_init 27 = .ok (.new 7, 3) := by decide +kernel
theorem dX4_init_30 : decode cX4_init 30 = .ok (.dup, 1) := by decide +kernel
theorem dX4_init_31 : decode cX4_init 31 = .ok (.invokespecial 9, 3) := by decide +kernel
theorem dX4_init_34 : decode cX4_init 34 = .ok (.putfield 19, 3) := by decide +kernel
theorem dX4_init_37 : decode cX4_init 37 = .ok (.aload_n 0, 1) := by decide +kernel
theorem dX4_init_38 : decode cX4_init 38 = .ok (.new 22, 3) := by decide +kernel
theorem dX4_init_41 : decode cX4_init 41 = .ok (.dup, 1) := by decide +kernel
theorem dX4_init_42 : decode cX4_init 42 = .ok (.invokespecial 24, 3) := by decide +kernel
theorem dX4_init_45 : decode cX4_init 45 = .ok (.putfield 25, 3) := by decide +kernel
theorem dX4_init_48 : decode cX4_init 48 = .ok (.aload_n 0, 1) := by decide +kernel
theorem dX4_init_49 : decode cX4_init 49 = .ok (.new 29, 3) := by decide +kernel
theorem dX4_init_52 : decode cX4_init 52 = .ok (.dup, 1) := by decide +kernel
theorem dX4_init_53 : decode cX4_init 53 = .ok (.invokespecial 31, 3) := by decide +kernel
theorem dX4_init_56 : decode cX4_init 56 = .ok (.putfield 32, 3) := by decide +kernel
theorem dX4_init_59 : decode cX4_init 59 = .ok (.aload_n 0, 1) := by decide +kernel
theorem dX4_init_60 : decode cX4_init 60 = .ok (.bipush 6, 2) := by decide +kernel
theorem dX4_init_62 : decode cX4_init 62 = .ok (.newarray .int, 2) := by decide +kernel
theorem dX4_init_64 : decode cX4_init 64 = .ok (.putfield 36, 3) := by decide +kernel
theorem dX4_init_67 : decode cX4_init 67 = .ok (.aload_n 0, 1) := by decide +kernel
theorem dX4_init_68 : decode cX4_init 68 = .ok (.bipush 12, 2) := by decide +kernel
theorem dX4_init_70 : decode cX4_init 70 = .ok (.newarray .int, 2) := by decide +kernel
theorem dX4_init_72 : decode cX4_init 72 = .ok (.putfield 40, 3) := by decide +kernel
theorem dX4_init_75 : decode cX4_init 75 = .ok (.aload_n 0, 1) := by decide +kernel
theorem dX4_init_76 : decode cX4_init 76 = .ok (.bipush 7, 2) := by decide +kernel
theorem dX4_init_78 : decode cX4_init 78 = .ok (.newarray .int, 2) := by decide +kernel
theorem dX4_init_80 : decode cX4_init 80 = .ok (.putfield 43, 3) := by decide +kernel
theorem dX4_init_83 : decode cX4_init 83 = .ok (.return_, 1) := by decide +kernel
theorem dX4_feed_0 : decode cX4_feed 0 = .ok (.iload_n 1, 1) := by decide +kernel
theorem dX4_feed_1 : decode cX4_feed 1 = .ok (.ifCond .ge 10, 3) := by decide +kernel
theorem dX4_feed_4 : decode cX4_feed 4 = .ok (.aload_n 0, 1) := by decide +kernel
theorem dX4_feed_5 : decode cX4_feed 5 = .ok (.bipush (-4), 2) := by decide +kernel
theorem dX4_feed_7 : decode cX4_feed 7 = .ok (.invokevirtual 46, 3) := by decide +kernel
theorem dX4_feed_10 : decode cX4_feed 10 = .ok (.ireturn, 1) := by decide +kernel
theorem dX4_feed_11 : decode cX4_feed 11 = .ok (.iload_n 1, 1) := by decide +kernel
theorem dX4_feed_12 : decode cX4_feed 12 = .ok (.sipush 255, 3) := by decide +kernel
theorem dX4_feed_15 : decode cX4_feed 15 = .ok (.if_icmp .gt 13, 3) := by decide +kernel
theorem dX4_feed_18 : decode cX4_feed 18 = .ok (.aload_n 0, 1) := by decide +kernel
theorem dX4_feed_19 : decode cX4_feed 19 = .ok (.getfield 32, 3) := by decide +kernel
theorem dX4_feed_22 : decode cX4_feed 22 = .ok (.invokevirtual 50, 3) := by decide +kernel
theorem dX4_feed_25 : decode cX4_feed 25 = .ok (.ifCond .eq 10, 3) := by decide +kernel
theorem dX4_feed_28 : decode cX4_feed 28 = .ok (.aload_n 0, 1) := by decide +kernel
theorem dX4_feed_29 : decode cX4_feed 29 = .ok (.bipush (-6), 2) := by decide +kernel
theorem dX4_feed_31 : decode cX4_feed 31 = .ok (.invokevirtual 46, 3) := by decide +kernel
theorem dX4_feed_34 : decode cX4_feed 34 = .ok (.ireturn, 1) := by decide +kernel
theorem dX4_feed_35 : decode cX4_feed 35 = .ok (.aload_n 0, 1) := by decide +kernel
theorem dX4_feed_36 : decode cX4_feed 36 = .ok (.getfield 32, 3) := by decide +kernel
theorem dX4_feed_39 : decode cX4_feed 39 = .ok (.iload_n 1, 1) := by decide +kernel
theorem dX4_feed_40 : decode cX4_feed 40 = .ok (.invokevirtual 54, 3) := by decide +kernel
theorem dX4_feed_43 : decode cX4_feed 43 = .ok (.ireturn, 1) := by decide +kernel
theorem dX4_land_0 : decode cX4_land 0 = .ok (.aload_n 0, 1) := by decide +kernel
theorem dX4_land_1 : decode cX4_land 1 = .ok (.invokevirtual 57, 3) := by decide +kernel
theorem dX4_land_4 : decode cX4_land 4 = .ok (.istore_n 1, 1) := by decide +kernel
theorem dX4_land_5 : decode cX4_land 5 = .ok (.aload_n 0, 1) := by decide +kernel
theorem dX4_land_6 : decode cX4_land 6 = .ok (.getfield 32, 3) := by decide +kernel
theorem dX4_land_9 : decode cX4_land 9 = .ok (.invokevirtual 61, 3) := by decide +kernel
theorem dX4_land_12 : decode cX4_land 12 = .ok (.iload_n 1, 1) := by decide +kernel
theorem dX4_land_13 : decode cX4_land 13 = .ok (.ireturn, 1) := by decide +kernel
theorem dX4_person_0 : decode cX4_person 0 = .ok (.aload_n 0, 1) := by decide +kernel
theorem dX4_person_1 : decode cX4_person 1 = .ok (.getfield 10, 3) := by decide +kernel
theorem dX4_person_4 : decode cX4_person 4 = .ok (.iload_n 1, 1) := by decide +kernel
theorem dX4_person_5 : decode cX4_person 5 = .ok (.invokevirtual 64, 3) := by decide +kernel
theorem dX4_person_8 : decode cX4_person 8 = .ok (.ifCond .ne 9, 3) := by decide +kernel
theorem dX4_person_11 : decode cX4_person 11 = .ok (.aload_n 0, 1) := by decide +kernel
theorem dX4_person_12 : decode cX4_person 12 = .ok (.iconst (-1), 1) := by decide +kernel
theorem dX4_person_13 : decode cX4_person 13 = .ok (.invokevirtual 46, 3) := by decide +kernel
theorem dX4_person_16 : decode cX4_person 16 = .ok (.ireturn, 1) := by decide +kernel
theorem dX4_person_17 : decode cX4_person 17 = .ok (.iload_n 2, 1) := by decide +kernel
theorem dX4_person_18 : decode cX4_person 18 = .ok (.tableswitch 145 0 8 #[50, 60, 70, 80, 90, 100, 112, 121, 133], 50) := by decide +kernel
theorem dX4_person_68 : decode cX4_person 68 = .ok (.aload_n 0, 1) := by decide +kernel
theorem dX4_person_69 : decode cX4_person 69 = .ok (.getfield 10, 3) := by decide +kernel
theorem dX4_person_72 : decode cX4_person 72 = .ok (.getfield 68, 3) := by decide +kernel
theorem dX4_person_75 : decode cX4_person 75 = .ok (.iload_n 1, 1) := by decide +kernel
theorem dX4_person_76 : decode cX4_person 76 = .ok (.iaload, 1) := by decide +kernel
theorem dX4_person_77 : decode cX4_person 77 = .ok (.ireturn, 1) := by decide +kernel
theorem dX4_person_78 : decode cX4_person 78 = .ok (.aload_n 0, 1) := by decide +kernel
theorem dX4_person_79 : decode cX4_person 79 = .ok (.getfield 10, 3) := by decide +kernel
theorem dX4_person_82 : decode cX4_person 82 = .ok (.getfield 71, 3) := by decide +kernel
theorem dX4_person_85 : decode cX4_person 85 = .ok (.iload_n 1, 1) := by decide +kernel
theorem dX4_person_86 : decode cX4_person 86 = .ok (.iaload, 1) := by decide +kernel
theorem dX4_person_87 : decode cX4_person 87 = .ok (.ireturn, 1) := by decide +kernel
theorem dX4_person_88 : decode cX4_person 88 = .ok (.aload_n 0, 1) := by decide +kernel
theorem dX4_person_89 : decode cX4_person 89 = .ok (.getfield 10, 3) := by decide +kernel
theorem dX4_person_92 : decode cX4_person 92 = .ok (.getfield 74, 3) := by decide +kernel
theorem dX4_person_95 : decode cX4_person 95 = .ok (.iload_n 1, 1) := by decide +kernel
theorem dX4_person_96 : decode cX4_person 96 = .ok (.iaload, 1) := by decide +kernel
theorem dX4_person_97 : decode cX4_person 97 = .ok (.ireturn, 1) := by decide +kernel
theorem dX4_person_98 : decode cX4_person 98 = .ok (.aload_n 0, 1) := by decide +kernel
theorem dX4_person_99 : decode cX4_person 99 = .ok (.getfield 10, 3) := by decide +kernel
theorem dX4_person_102 : decode cX4_person 102 = .ok (.getfield 77, 3) := by decide +kernel
theorem dX4_person_105 : decode cX4_person 105 = .ok (.iload_n 1, 1) := by decide +kernel
theorem dX4_person_106 : decode cX4_person 106 = .ok (.iaload, 1) := by decide +kernel
theorem dX4_person_107 : decode cX4_person 107 = .ok (.ireturn, 1) := by decide +kernel
theorem dX4_person_108 : decode cX4_person 108 = .ok (.aload_n 0, 1) := by decide +kernel
theorem dX4_person_109 : decode cX4_person 109 = .ok (.getfield 10, 3) := by decide +kernel
theorem dX4_person_112 : decode cX4_person 112 = .ok (.getfield 80, 3) := by decide +kernel
theorem dX4_person_115 : decode cX4_person 115 = .ok (.iload_n 1, 1) := by decide +kernel
theorem dX4_person_116 : decode cX4_person 116 = .ok (.iaload, 1) := by decide +kernel
theorem dX4_person_117 : decode cX4_person 117 = .ok (.ireturn, 1) := by decide +kernel
theorem dX4_person_118 : decode cX4_person 118 = .ok (.aload_n 0, 1) := by decide +kernel
theorem dX4_person_119 : decode cX4_person 119 = .ok (.getfield 10, 3) := by decide +kernel
theorem dX4_person_122 : decode cX4_person 122 = .ok (.getfield 83, 3) := by decide +kernel
theorem dX4_person_125 : decode cX4_person 125 = .ok (.iload_n 1, 1) := by decide +kernel
theorem dX4_person_126 : decode cX4_person 126 = .ok (.invokevirtual 87, 3) := by decide +kernel
theorem dX4_person_129 : decode cX4_person 129 = .ok (.ireturn, 1) := by decide +kernel
theorem dX4_person_130 : decode cX4_person 130 = .ok (.aload_n 0, 1) := by decide +kernel
theorem dX4_person_131 : decode cX4_person 131 = .ok (.getfield 10, 3) := by decide +kernel
theorem dX4_person_134 : decode cX4_person 134 = .ok (.iload_n 1, 1) := by decide +kernel
theorem dX4_person_135 : decode cX4_person 135 = .ok (.invokevirtual 92, 3) := by decide +kernel
theorem dX4_person_138 : decode cX4_person 138 = .ok (.ireturn, 1) := by decide +kernel
theorem dX4_person_139 : decode cX4_person 139 = .ok (.aload_n 0, 1) := by decide +kernel
theorem dX4_person_140 : decode cX4_person 140 = .ok (.getfield 10, 3) := by decide +kernel
theorem dX4_person_143 : decode cX4_person 143 = .ok (.getfield 83, 3) := by decide +kernel
theorem dX4_person_146 : decode cX4_person 146 = .ok (.iload_n 1, 1) := by decide +kernel
theorem dX4_person_147 : decode cX4_person 147 = .ok (.invokevirtual 95, 3) := by decide +kernel
theorem dX4_person_150 : decode cX4_person 150 = .ok (.ireturn, 1) := by decide +kernel
theorem dX4_person_151 : decode cX4_person 151 = .ok (.aload_n 0, 1) := by decide +kernel
theorem dX4_person_152 : decode cX4_person 152 = .ok (.getfield 10, 3) := by decide +kernel
theorem dX4_person_155 : decode cX4_person 155 = .ok (.getfield 83, 3) := by decide +kernel
theorem dX4_person_158 : decode cX4_person 158 = .ok (.iload_n 1, 1) := by decide +kernel
theorem dX4_person_159 : decode cX4_person 159 = .ok (.invokevirtual 98, 3) := by decide +kernel
theorem dX4_person_162 : decode cX4_person 162 = .ok (.ireturn, 1) := by decide +kernel
theorem dX4_person_163 : decode cX4_person 163 = .ok (.aload_n 0, 1) := by decide +kernel
theorem dX4_person_164 : decode cX4_person 164 = .ok (.bipush (-2), 2) := by decide +kernel
theorem dX4_person_166 : decode cX4_person 166 = .ok (.invokevirtual 46, 3) := by decide +kernel
theorem dX4_person_169 : decode cX4_person 169 = .ok (.ireturn, 1) := by decide +kernel
theorem dX4_put_0 : decode cX4_put 0 = .ok (.aload_n 0, 1) := by decide +kernel
theorem dX4_put_1 : decode cX4_put 1 = .ok (.iload_n 1, 1) := by decide +kernel
theorem dX4_put_2 : decode cX4_put 2 = .ok (.iload_n 2, 1) := by decide +kernel
theorem dX4_put_3 : decode cX4_put 3 = .ok (.iload_n 3, 1) := by decide +kernel
theorem dX4_put_4 : decode cX4_put 4 = .ok (.invokevirtual 101, 3) := by decide +kernel
theorem dX4_put_7 : decode cX4_put 7 = .ok (.istore 4, 2) := by decide +kernel
theorem dX4_put_9 : decode cX4_put 9 = .ok (.iload 4, 2) := by decide +kernel
theorem dX4_put_11 : decode cX4_put 11 = .ok (.ifCond .eq 10, 3) := by decide +kernel
theorem dX4_put_14 : decode cX4_put 14 = .ok (.aload_n 0, 1) := by decide +kernel
theorem dX4_put_15 : decode cX4_put 15 = .ok (.iload 4, 2) := by decide +kernel
theorem dX4_put_17 : decode cX4_put 17 = .ok (.invokevirtual 46, 3) := by decide +kernel
theorem dX4_put_20 : decode cX4_put 20 = .ok (.ireturn, 1) := by decide +kernel
theorem dX4_put_21 : decode cX4_put 21 = .ok (.iload_n 2, 1) := by decide +kernel
theorem dX4_put_22 : decode cX4_put 22 = .ok (.ifCond .ne 13, 3) := by decide +kernel
theorem dX4_put_25 : decode cX4_put 25 = .ok (.aload_n 0, 1) := by decide +kernel
theorem dX4_put_26 : decode cX4_put 26 = .ok (.getfield 10, 3) := by decide +kernel
theorem dX4_put_29 : decode cX4_put 29 = .ok (.getfield 77, 3) := by decide +kernel
theorem dX4_put_32 : decode cX4_put 32 = .ok (.goto 25, 3) := by decide +kernel
theorem dX4_put_35 : decode cX4_put 35 = .ok (.iload_n 2, 1) := by decide +kernel
theorem dX4_put_36 : decode cX4_put 36 = .ok (.iconst 1, 1) := by decide +kernel
theorem dX4_put_37 : decode cX4_put 37 = .ok (.if_icmp .ne 13, 3) := by decide +kernel
theorem dX4_put_40 : decode cX4_put 40 = .ok (.aload_n 0, 1) := by decide +kernel
theorem dX4_put_41 : decode cX4_put 41 = .ok (.getfield 10, 3) := by decide +kernel
theorem dX4_put_44 : decode cX4_put 44 = .ok (.getfield 80, 3) := by decide +kernel
theorem dX4_put_47 : decode cX4_put 47 = .ok (.goto 10, 3) := by decide +kernel
theorem dX4_put_50 : decode cX4_put 50 = .ok (.aload_n 0, 1) := by decide +kernel
theorem dX4_put_51 : decode cX4_put 51 = .ok (.getfield 10, 3) := by decide +kernel
theorem dX4_put_54 : decode cX4_put 54 = .ok (.getfield 74, 3) := by decide +kernel
theorem dX4_put_57 : decode cX4_put 57 = .ok (.astore 5, 2) := by decide +kernel
theorem dX4_put_59 : decode cX4_put 59 = .ok (.aload 5, 2) := by decide +kernel
theorem dX4_put_61 : decode cX4_put 61 = .ok (.iload_n 1, 1) := by decide +kernel
theorem dX4_put_62 : decode cX4_put 62 = .ok (.iaload, 1) := by decide +kernel
theorem dX4_put_63 : decode cX4_put 63 = .ok (.istore 6, 2) := by decide +kernel
theorem dX4_put_65 : decode cX4_put 65 = .ok (.aload 5, 2) := by decide +kernel
theorem dX4_put_67 : decode cX4_put 67 = .ok (.iload_n 1, 1) := by decide +kernel
theorem dX4_put_68 : decode cX4_put 68 = .ok (.iload_n 3, 1) := by decide +kernel
theorem dX4_put_69 : decode cX4_put 69 = .ok (.iastore, 1) := by decide +kernel
theorem dX4_put_70 : decode cX4_put 70 = .ok (.iload 6, 2) := by decide +kernel
theorem dX4_put_72 : decode cX4_put 72 = .ok (.ireturn, 1) := by decide +kernel
theorem dX4_set_0 : decode cX4_set 0 = .ok (.iload_n 1, 1) := by decide +kernel
theorem dX4_set_1 : decode cX4_set 1 = .ok (.ifCond .lt 11, 3) := by decide +kernel
theorem dX4_set_4 : decode cX4_set 4 = .ok (.iload_n 1, 1) := by decide +kernel
theorem dX4_set_5 : decode cX4_set 5 = .ok (.getstatic 105, 3) := by decide +kernel
theorem dX4_set_8 : decode cX4_set 8 = .ok (.arraylength, 1) := by decide +kernel
theorem dX4_set_9 : decode cX4_set 9 = .ok (.if_icmp .lt 10, 3) := by decide +kernel
theorem dX4_set_12 : decode cX4_set 12 = .ok (.aload_n 0, 1) := by decide +kernel
theorem dX4_set_13 : decode cX4_set 13 = .ok (.bipush (-2), 2) := by decide +kernel
theorem dX4_set_15 : decode cX4_set 15 = .ok (.invokevirtual 46, 3) := by decide +kernel
theorem dX4_set_18 : decode cX4_set 18 = .ok (.ireturn, 1) := by decide +kernel
theorem dX4_set_19 : decode cX4_set 19 = .ok (.iload_n 2, 1) := by decide +kernel
theorem dX4_set_20 : decode cX4_set 20 = .ok (.getstatic 105, 3) := by decide +kernel
theorem dX4_set_23 : decode cX4_set 23 = .ok (.iload_n 1, 1) := by decide +kernel
theorem dX4_set_24 : decode cX4_set 24 = .ok (.iaload, 1) := by decide +kernel
theorem dX4_set_25 : decode cX4_set 25 = .ok (.getstatic 108, 3) := by decide +kernel
theorem dX4_set_28 : decode cX4_set 28 = .ok (.iload_n 1, 1) := by decide +kernel
theorem dX4_set_29 : decode cX4_set 29 = .ok (.iaload, 1) := by decide +kernel
theorem dX4_set_30 : decode cX4_set 30 = .ok (.invokestatic 111, 3) := by decide +kernel
theorem dX4_set_33 : decode cX4_set 33 = .ok (.istore_n 3, 1) := by decide +kernel
theorem dX4_set_34 : decode cX4_set 34 = .ok (.iload_n 3, 1) := by decide +kernel
theorem dX4_set_35 : decode cX4_set 35 = .ok (.ifCond .eq 9, 3) := by decide +kernel
theorem dX4_set_38 : decode cX4_set 38 = .ok (.aload_n 0, 1) := by decide +kernel
theorem dX4_set_39 : decode cX4_set 39 = .ok (.iload_n 3, 1) := by decide +kernel
theorem dX4_set_40 : decode cX4_set 40 = .ok (.invokevirtual 46, 3) := by decide +kernel
theorem dX4_set_43 : decode cX4_set 43 = .ok (.ireturn, 1) := by decide +kernel
theorem dX4_set_44 : decode cX4_set 44 = .ok (.aload_n 0, 1) := by decide +kernel
theorem dX4_set_45 : decode cX4_set 45 = .ok (.getfield 10, 3) := by decide +kernel
theorem dX4_set_48 : decode cX4_set 48 = .ok (.iload_n 1, 1) := by decide +kernel
theorem dX4_set_49 : decode cX4_set 49 = .ok (.iload_n 2, 1) := by decide +kernel
theorem dX4_set_50 : decode cX4_set 50 = .ok (.invokevirtual 114, 3) := by decide +kernel
theorem dX4_set_53 : decode cX4_set 53 = .ok (.ireturn, 1) := by decide +kernel
theorem dX4_give_0 : decode cX4_give 0 = .ok (.aload_n 0, 1) := by decide +kernel
theorem dX4_give_1 : decode cX4_give 1 = .ok (.getfield 10, 3) := by decide +kernel
theorem dX4_give_4 : decode cX4_give 4 = .ok (.iload_n 1, 1) := by decide +kernel
theorem dX4_give_5 : decode cX4_give 5 = .ok (.iload_n 2, 1) := by decide +kernel
theorem dX4_give_6 : decode cX4_give 6 = .ok (.iload_n 3, 1) := by decide +kernel
theorem dX4_give_7 : decode cX4_give 7 = .ok (.invokevirtual 118, 3) := by decide +kernel
theorem dX4_give_10 : decode cX4_give 10 = .ok (.istore 4, 2) := by decide +kernel
theorem dX4_give_12 : decode cX4_give 12 = .ok (.iload 4, 2) := by decide +kernel
theorem dX4_give_14 : decode cX4_give 14 = .ok (.ifCond .eq 10, 3) := by decide +kernel
theorem dX4_give_17 : decode cX4_give 17 = .ok (.aload_n 0, 1) := by decide +kernel
theorem dX4_give_18 : decode cX4_give 18 = .ok (.iload 4, 2) := by decide +kernel
theorem dX4_give_20 : decode cX4_give 20 = .ok (.invokevirtual 46, 3) := by decide +kernel
theorem dX4_give_23 : decode cX4_give 23 = .ok (.ireturn, 1) := by decide +kernel
theorem dX4_give_24 : decode cX4_give 24 = .ok (.aload_n 0, 1) := by decide +kernel
theorem dX4_give_25 : decode cX4_give 25 = .ok (.getfield 10, 3) := by decide +kernel
theorem dX4_give_28 : decode cX4_give 28 = .ok (.iload_n 1, 1) := by decide +kernel
theorem dX4_give_29 : decode cX4_give 29 = .ok (.iload_n 2, 1) := by decide +kernel
theorem dX4_give_30 : decode cX4_give 30 = .ok (.iload_n 3, 1) := by decide +kernel
theorem dX4_give_31 : decode cX4_give 31 = .ok (.invokevirtual 121, 3) := by decide +kernel
theorem dX4_give_34 : decode cX4_give 34 = .ok (.aload_n 0, 1) := by decide +kernel
theorem dX4_give_35 : decode cX4_give 35 = .ok (.getfield 10, 3) := by decide +kernel
theorem dX4_give_38 : decode cX4_give 38 = .ok (.getfield 77, 3) := by decide +kernel
theorem dX4_give_41 : decode cX4_give 41 = .ok (.iload_n 1, 1) := by decide +kernel
theorem dX4_give_42 : decode cX4_give 42 = .ok (.iaload, 1) := by decide +kernel
theorem dX4_give_43 : decode cX4_give 43 = .ok (.ireturn, 1) := by decide +kernel
theorem dX4_evening_0 : decode cX4_evening 0 = .ok (.aload_n 0, 1) := by decide +kernel
theorem dX4_evening_1 : decode cX4_evening 1 = .ok (.getfield 10, 3) := by decide +kernel
theorem dX4_evening_4 : decode cX4_evening 4 = .ok (.getfield 125, 3) := by decide +kernel
theorem dX4_evening_7 : decode cX4_evening 7 = .ok (.sipush 999, 3) := by decide +kernel
theorem dX4_evening_10 : decode cX4_evening 10 = .ok (.if_icmp .lt 10, 3) := by decide +kernel
theorem dX4_evening_13 : decode cX4_evening 13 = .ok (.aload_n 0, 1) := by decide +kernel
theorem dX4_evening_14 : decode cX4_evening 14 = .ok (.bipush (-6), 2) := by decide +kernel
theorem dX4_evening_16 : decode cX4_evening 16 = .ok (.invokevirtual 46, 3) := by decide +kernel
theorem dX4_evening_19 : decode cX4_evening 19 = .ok (.ireturn, 1) := by decide +kernel
theorem dX4_evening_20 : decode cX4_evening 20 = .ok (.aload_n 0, 1) := by decide +kernel
theorem dX4_evening_21 : decode cX4_evening 21 = .ok (.getfield 10, 3) := by decide +kernel
theorem dX4_evening_24 : decode cX4_evening 24 = .ok (.invokevirtual 129, 3) := by decide +kernel
theorem dX4_evening_27 : decode cX4_evening 27 = .ok (.pop, 1) := by decide +kernel
theorem dX4_evening_28 : decode cX4_evening 28 = .ok (.aload_n 0, 1) := by decide +kernel
theorem dX4_evening_29 : decode cX4_evening 29 = .ok (.getfield 10, 3) := by decide +kernel
theorem dX4_evening_32 : decode cX4_evening 32 = .ok (.getfield 125, 3) := by decide +kernel
theorem dX4_evening_35 : decode cX4_evening 35 = .ok (.ireturn, 1) := by decide +kernel
theorem dX4_day_0 : decode cX4_day 0 = .ok (.aload_n 0, 1) := by decide +kernel
theorem dX4_day_1 : decode cX4_day 1 = .ok (.getfield 10, 3) := by decide +kernel
theorem dX4_day_4 : decode cX4_day 4 = .ok (.getfield 125, 3) := by decide +kernel
theorem dX4_day_7 : decode cX4_day 7 = .ok (.sipush 999, 3) := by decide +kernel
theorem dX4_day_10 : decode cX4_day 10 = .ok (.if_icmp .lt 10, 3) := by decide +kernel
theorem dX4_day_13 : decode cX4_day 13 = .ok (.aload_n 0, 1) := by decide +kernel
theorem dX4_day_14 : decode cX4_day 14 = .ok (.bipush (-6), 2) := by decide +kernel
theorem dX4_day_16 : decode cX4_day 16 = .ok (.invokevirtual 46, 3) := by decide +kernel
theorem dX4_day_19 : decode cX4_day 19 = .ok (.ireturn, 1) := by decide +kernel
theorem dX4_day_20 : decode cX4_day 20 = .ok (.aload_n 0, 1) := by decide +kernel
theorem dX4_day_21 : decode cX4_day 21 = .ok (.getfield 10, 3) := by decide +kernel
theorem dX4_day_24 : decode cX4_day 24 = .ok (.invokevirtual 132, 3) := by decide +kernel
theorem dX4_day_27 : decode cX4_day 27 = .ok (.pop, 1) := by decide +kernel
theorem dX4_day_28 : decode cX4_day 28 = .ok (.aload_n 0, 1) := by decide +kernel
theorem dX4_day_29 : decode cX4_day 29 = .ok (.getfield 10, 3) := by decide +kernel
theorem dX4_day_32 : decode cX4_day 32 = .ok (.getfield 125, 3) := by decide +kernel
theorem dX4_day_35 : decode cX4_day 35 = .ok (.ireturn, 1) := by decide +kernel
theorem dX4_gives_0 : decode cX4_gives 0 = .ok (.aload_n 0, 1) := by decide +kernel
theorem dX4_gives_1 : decode cX4_gives 1 = .ok (.getfield 10, 3) := by decide +kernel
theorem dX4_gives_4 : decode cX4_gives 4 = .ok (.iload_n 1, 1) := by decide +kernel
theorem dX4_gives_5 : decode cX4_gives 5 = .ok (.invokevirtual 64, 3) := by decide +kernel
theorem dX4_gives_8 : decode cX4_gives 8 = .ok (.ifCond .eq 14, 3) := by decide +kernel
theorem dX4_gives_11 : decode cX4_gives 11 = .ok (.aload_n 0, 1) := by decide +kernel
theorem dX4_gives_12 : decode cX4_gives 12 = .ok (.getfield 10, 3) := by decide +kernel
theorem dX4_gives_15 : decode cX4_gives 15 = .ok (.iload_n 1, 1) := by decide +kernel
theorem dX4_gives_16 : decode cX4_gives 16 = .ok (.invokevirtual 135, 3) := by decide +kernel
theorem dX4_gives_19 : decode cX4_gives 19 = .ok (.goto 8, 3) := by decide +kernel
theorem dX4_gives_22 : decode cX4_gives 22 = .ok (.aload_n 0, 1) := by decide +kernel
theorem dX4_gives_23 : decode cX4_gives 23 = .ok (.iconst (-1), 1) := by decide +kernel
theorem dX4_gives_24 : decode cX4_gives 24 = .ok (.invokevirtual 46, 3) := by decide +kernel
theorem dX4_gives_27 : decode cX4_gives 27 = .ok (.ireturn, 1) := by decide +kernel
theorem dX4_after_0 : decode cX4_after 0 = .ok (.aload_n 0, 1) := by decide +kernel
theorem dX4_after_1 : decode cX4_after 1 = .ok (.iload_n 1, 1) := by decide +kernel
theorem dX4_after_2 : decode cX4_after 2 = .ok (.iload_n 2, 1) := by decide +kernel
theorem dX4_after_3 : decode cX4_after 3 = .ok (.iconst 0, 1) := by decide +kernel
theorem dX4_after_4 : decode cX4_after 4 = .ok (.bipush 60, 2) := by decide +kernel
theorem dX4_after_6 : decode cX4_after 6 = .ok (.invokevirtual 138, 3) := by decide +kernel
theorem dX4_after_9 : decode cX4_after 9 = .ok (.istore_n 3, 1) := by decide +kernel
theorem dX4_after_10 : decode cX4_after 10 = .ok (.iload_n 3, 1) := by decide +kernel
theorem dX4_after_11 : decode cX4_after 11 = .ok (.ifCond .eq 9, 3) := by decide +kernel
theorem dX4_after_14 : decode cX4_after 14 = .ok (.aload_n 0, 1) := by decide +kernel
theorem dX4_after_15 : decode cX4_after 15 = .ok (.iload_n 3, 1) := by decide +kernel
theorem dX4_after_16 : decode cX4_after 16 = .ok (.invokevirtual 46, 3) := by decide +kernel
theorem dX4_after_19 : decode cX4_after 19 = .ok (.ireturn, 1) := by decide +kernel
theorem dX4_after_20 : decode cX4_after 20 = .ok (.aload_n 0, 1) := by decide +kernel
theorem dX4_after_21 : decode cX4_after 21 = .ok (.iload_n 2, 1) := by decide +kernel
theorem dX4_after_22 : decode cX4_after 22 = .ok (.invokevirtual 142, 3) := by decide +kernel
theorem dX4_after_25 : decode cX4_after 25 = .ok (.aload_n 0, 1) := by decide +kernel
theorem dX4_after_26 : decode cX4_after 26 = .ok (.getfield 19, 3) := by decide +kernel
theorem dX4_after_29 : decode cX4_after 29 = .ok (.getfield 77, 3) := by decide +kernel
theorem dX4_after_32 : decode cX4_after 32 = .ok (.iload_n 1, 1) := by decide +kernel
theorem dX4_after_33 : decode cX4_after 33 = .ok (.iaload, 1) := by decide +kernel
theorem dX4_after_34 : decode cX4_after 34 = .ok (.ireturn, 1) := by decide +kernel
theorem dX4_all_0 : decode cX4_all 0 = .ok (.iload_n 1, 1) := by decide +kernel
theorem dX4_all_1 : decode cX4_all 1 = .ok (.iconst 0, 1) := by decide +kernel
theorem dX4_all_2 : decode cX4_all 2 = .ok (.bipush 60, 2) := by decide +kernel
theorem dX4_all_4 : decode cX4_all 4 = .ok (.invokestatic 111, 3) := by decide +kernel
theorem dX4_all_7 : decode cX4_all 7 = .ok (.istore_n 2, 1) := by decide +kernel
theorem dX4_all_8 : decode cX4_all 8 = .ok (.iload_n 2, 1) := by decide +kernel
theorem dX4_all_9 : decode cX4_all 9 = .ok (.ifCond .eq 9, 3) := by decide +kernel
theorem dX4_all_12 : decode cX4_all 12 = .ok (.aload_n 0, 1) := by decide +kernel
theorem dX4_all_13 : decode cX4_all 13 = .ok (.iload_n 2, 1) := by decide +kernel
theorem dX4_all_14 : decode cX4_all 14 = .ok (.invokevirtual 46, 3) := by decide +kernel
theorem dX4_all_17 : decode cX4_all 17 = .ok (.ireturn, 1) := by decide +kernel
theorem dX4_all_18 : decode cX4_all 18 = .ok (.aload_n 0, 1) := by decide +kernel
theorem dX4_all_19 : decode cX4_all 19 = .ok (.iload_n 1, 1) := by decide +kernel
theorem dX4_all_20 : decode cX4_all 20 = .ok (.invokevirtual 142, 3) := by decide +kernel
theorem dX4_all_23 : decode cX4_all 23 = .ok (.aload_n 0, 1) := by decide +kernel
theorem dX4_all_24 : decode cX4_all 24 = .ok (.getfield 19, 3) := by decide +kernel
theorem dX4_all_27 : decode cX4_all 27 = .ok (.invokevirtual 146, 3) := by decide +kernel
theorem dX4_all_30 : decode cX4_all 30 = .ok (.ireturn, 1) := by decide +kernel
theorem dX4_enough_0 : decode cX4_enough 0 = .ok (.aload_n 0, 1) := by decide +kernel
theorem dX4_enough_1 : decode cX4_enough 1 = .ok (.iload_n 1, 1) := by decide +kernel
theorem dX4_enough_2 : decode cX4_enough 2 = .ok (.iload_n 2, 1) := by decide +kernel
theorem dX4_enough_3 : decode cX4_enough 3 = .ok (.iconst 0, 1) := by decide +kernel
theorem dX4_enough_4 : decode cX4_enough 4 = .ok (.sipush 9999, 3) := by decide +kernel
theorem dX4_enough_7 : decode cX4_enough 7 = .ok (.invokevirtual 138, 3) := by decide +kernel
theorem dX4_enough_10 : decode cX4_enough 10 = .ok (.istore_n 3, 1) := by decide +kernel
theorem dX4_enough_11 : decode cX4_enough 11 = .ok (.iload_n 3, 1) := by decide +kernel
theorem dX4_enough_12 : decode cX4_enough 12 = .ok (.ifCond .eq 9, 3) := by decide +kernel
theorem dX4_enough_15 : decode cX4_enough 15 = .ok (.aload_n 0, 1) := by decide +kernel
theorem dX4_enough_16 : decode cX4_enough 16 = .ok (.iload_n 3, 1) := by decide +kernel
theorem dX4_enough_17 : decode cX4_enough 17 = .ok (.invokevirtual 46, 3) := by decide +kernel
theorem dX4_enough_20 : decode cX4_enough 20 = .ok (.ireturn, 1) := by decide +kernel
theorem dX4_enough_21 : decode cX4_enough 21 = .ok (.aload_n 0, 1) := by decide +kernel
theorem dX4_enough_22 : decode cX4_enough 22 = .ok (.getfield 19, 3) := by decide +kernel
theorem dX4_enough_25 : decode cX4_enough 25 = .ok (.aload_n 0, 1) := by decide +kernel
theorem dX4_enough_26 : decode cX4_enough 26 = .ok (.getfield 10, 3) := by decide +kernel
theorem dX4_enough_29 : decode cX4_enough 29 = .ok (.invokevirtual 149, 3) := by decide +kernel
theorem dX4_enough_32 : decode cX4_enough 32 = .ok (.iconst 0, 1) := by decide +kernel
theorem dX4_enough_33 : decode cX4_enough 33 = .ok (.istore 4, 2) := by decide +kernel
theorem dX4_enough_35 : decode cX4_enough 35 = .ok (.iload 4, 2) := by decide +kernel
theorem dX4_enough_37 : decode cX4_enough 37 = .ok (.bipush 60, 2) := by decide +kernel
theorem dX4_enough_39 : decode cX4_enough 39 = .ok (.if_icmp .gt 33, 3) := by decide +kernel
theorem dX4_enough_42 : decode cX4_enough 42 = .ok (.aload_n 0, 1) := by decide +kernel
theorem dX4_enough_43 : decode cX4_enough 43 = .ok (.getfield 19, 3) := by decide +kernel
theorem dX4_enough_46 : decode cX4_enough 46 = .ok (.getfield 77, 3) := by decide +kernel
theorem dX4_enough_49 : decode cX4_enough 49 = .ok (.iload_n 1, 1) := by decide +kernel
theorem dX4_enough_50 : decode cX4_enough 50 = .ok (.iaload, 1) := by decide +kernel
theorem dX4_enough_51 : decode cX4_enough 51 = .ok (.iload_n 2, 1) := by decide +kernel
theorem dX4_enough_52 : decode cX4_enough 52 = .ok (.if_icmp .lt 6, 3) := by decide +kernel
theorem dX4_enough_55 : decode cX4_enough 55 = .ok (.iload 4, 2) := by decide +kernel
theorem dX4_enough_57 : decode cX4_enough 57 = .ok (.ireturn, 1) := by decide +kernel
theorem dX4_enough_58 : decode cX4_enough 58 = .ok (.aload_n 0, 1) := by decide +kernel
theorem dX4_enough_59 : decode cX4_enough 59 = .ok (.getfield 19, 3) := by decide +kernel
theorem dX4_enough_62 : decode cX4_enough 62 = .ok (.invokevirtual 132, 3) := by decide +kernel
theorem dX4_enough_65 : decode cX4_enough 65 = .ok (.pop, 1) := by decide +kernel
theorem dX4_enough_66 : decode cX4_enough 66 = .ok (.iinc 4 1, 3) := by decide +kernel
theorem dX4_enough_69 : decode cX4_enough 69 = .ok (.goto (-34), 3) := by decide +kernel
theorem dX4_enough_72 : decode cX4_enough 72 = .ok (.bipush (-9), 2) := by decide +kernel
theorem dX4_enough_74 : decode cX4_enough 74 = .ok (.ireturn, 1) := by decide +kernel
theorem dX4_richest_0 : decode cX4_richest 0 = .ok (.iload_n 1, 1) := by decide +kernel
theorem dX4_richest_1 : decode cX4_richest 1 = .ok (.iconst 0, 1) := by decide +kernel
theorem dX4_richest_2 : decode cX4_richest 2 = .ok (.bipush 60, 2) := by decide +kernel
theorem dX4_richest_4 : decode cX4_richest 4 = .ok (.invokestatic 111, 3) := by decide +kernel
theorem dX4_richest_7 : decode cX4_richest 7 = .ok (.istore_n 2, 1) := by decide +kernel
theorem dX4_richest_8 : decode cX4_richest 8 = .ok (.iload_n 2, 1) := by decide +kernel
theorem dX4_richest_9 : decode cX4_richest 9 = .ok (.ifCond .eq 9, 3) := by decide +kernel
theorem dX4_richest_12 : decode cX4_richest 12 = .ok (.aload_n 0, 1) := by decide +kernel
theorem dX4_richest_13 : decode cX4_richest 13 = .ok (.iload_n 2, 1) := by decide +kernel
theorem dX4_richest_14 : decode cX4_richest 14 = .ok (.invokevirtual 46, 3) := by decide +kernel
theorem dX4_richest_17 : decode cX4_richest 17 = .ok (.ireturn, 1) := by decide +kernel
theorem dX4_richest_18 : decode cX4_richest 18 = .ok (.aload_n 0, 1) := by decide +kernel
theorem dX4_richest_19 : decode cX4_richest 19 = .ok (.iload_n 1, 1) := by decide +kernel
theorem dX4_richest_20 : decode cX4_richest 20 = .ok (.invokevirtual 142, 3) := by decide +kernel
theorem dX4_richest_23 : decode cX4_richest 23 = .ok (.aload_n 0, 1) := by decide +kernel
theorem dX4_richest_24 : decode cX4_richest 24 = .ok (.getfield 19, 3) := by decide +kernel
theorem dX4_richest_27 : decode cX4_richest 27 = .ok (.iconst (-1), 1) := by decide +kernel
theorem dX4_richest_28 : decode cX4_richest 28 = .ok (.invokevirtual 153, 3) := by decide +kernel
theorem dX4_richest_31 : decode cX4_richest 31 = .ok (.ireturn, 1) := by decide +kernel
theorem dX4_lost_0 : decode cX4_lost 0 = .ok (.iload_n 1, 1) := by decide +kernel
theorem dX4_lost_1 : decode cX4_lost 1 = .ok (.iconst 0, 1) := by decide +kernel
theorem dX4_lost_2 : decode cX4_lost 2 = .ok (.bipush 60, 2) := by decide +kernel
theorem dX4_lost_4 : decode cX4_lost 4 = .ok (.invokestatic 111, 3) := by decide +kernel
theorem dX4_lost_7 : decode cX4_lost 7 = .ok (.istore_n 2, 1) := by decide +kernel
theorem dX4_lost_8 : decode cX4_lost 8 = .ok (.iload_n 2, 1) := by decide +kernel
theorem dX4_lost_9 : decode cX4_lost 9 = .ok (.ifCond .eq 9, 3) := by decide +kernel
theorem dX4_lost_12 : decode cX4_lost 12 = .ok (.aload_n 0, 1) := by decide +kernel
theorem dX4_lost_13 : decode cX4_lost 13 = .ok (.iload_n 2, 1) := by decide +kernel
theorem dX4_lost_14 : decode cX4_lost 14 = .ok (.invokevirtual 46, 3) := by decide +kernel
theorem dX4_lost_17 : decode cX4_lost 17 = .ok (.ireturn, 1) := by decide +kernel
theorem dX4_lost_18 : decode cX4_lost 18 = .ok (.aload_n 0, 1) := by decide +kernel
theorem dX4_lost_19 : decode cX4_lost 19 = .ok (.getfield 19, 3) := by decide +kernel
theorem dX4_lost_22 : decode cX4_lost 22 = .ok (.aload_n 0, 1) := by decide +kernel
theorem dX4_lost_23 : decode cX4_lost 23 = .ok (.getfield 10, 3) := by decide +kernel
theorem dX4_lost_26 : decode cX4_lost 26 = .ok (.invokevirtual 149, 3) := by decide +kernel
theorem dX4_lost_29 : decode cX4_lost 29 = .ok (.iconst 0, 1) := by decide +kernel
theorem dX4_lost_30 : decode cX4_lost 30 = .ok (.istore_n 3, 1) := by decide +kernel
theorem dX4_lost_31 : decode cX4_lost 31 = .ok (.iconst 0, 1) := by decide +kernel
theorem dX4_lost_32 : decode cX4_lost 32 = .ok (.istore 4, 2) := by decide +kernel
theorem dX4_lost_34 : decode cX4_lost 34 = .ok (.iload 4, 2) := by decide +kernel
theorem dX4_lost_36 : decode cX4_lost 36 = .ok (.iload_n 1, 1) := by decide +kernel
theorem dX4_lost_37 : decode cX4_lost 37 = .ok (.if_icmp .ge 19, 3) := by decide +kernel
theorem dX4_lost_40 : decode cX4_lost 40 = .ok (.iload_n 3, 1) := by decide +kernel
theorem dX4_lost_41 : decode cX4_lost 41 = .ok (.aload_n 0, 1) := by decide +kernel
theorem dX4_lost_42 : decode cX4_lost 42 = .ok (.getfield 19, 3) := by decide +kernel
theorem dX4_lost_45 : decode cX4_lost 45 = .ok (.invokevirtual 132, 3) := by decide +kernel
theorem dX4_lost_48 : decode cX4_lost 48 = .ok (.iadd, 1) := by decide +kernel
theorem dX4_lost_49 : decode cX4_lost 49 = .ok (.istore_n 3, 1) := by decide +kernel
theorem dX4_lost_50 : decode cX4_lost 50 = .ok (.iinc 4 1, 3) := by decide +kernel
theorem dX4_lost_53 : decode cX4_lost 53 = .ok (.goto (-19), 3) := by decide +kernel
theorem dX4_lost_56 : decode cX4_lost 56 = .ok (.iload_n 3, 1) := by decide +kernel
theorem dX4_lost_57 : decode cX4_lost 57 = .ok (.ireturn, 1) := by decide +kernel
theorem dX4_grows_0 : decode cX4_grows 0 = .ok (.iload_n 1, 1) := by decide +kernel
theorem dX4_grows_1 : decode cX4_grows 1 = .ok (.iconst 1, 1) := by decide +kernel
theorem dX4_grows_2 : decode cX4_grows 2 = .ok (.bipush 60, 2) := by decide +kernel
theorem dX4_grows_4 : decode cX4_grows 4 = .ok (.invokestatic 111, 3) := by decide +kernel
theorem dX4_grows_7 : decode cX4_grows 7 = .ok (.istore_n 2, 1) := by decide +kernel
theorem dX4_grows_8 : decode cX4_grows 8 = .ok (.iload_n 2, 1) := by decide +kernel
theorem dX4_grows_9 : decode cX4_grows 9 = .ok (.ifCond .eq 9, 3) := by decide +kernel
theorem dX4_grows_12 : decode cX4_grows 12 = .ok (.aload_n 0, 1) := by decide +kernel
theorem dX4_grows_13 : decode cX4_grows 13 = .ok (.iload_n 2, 1) := by decide +kernel
theorem dX4_grows_14 : decode cX4_grows 14 = .ok (.invokevirtual 46, 3) := by decide +kernel
theorem dX4_grows_17 : decode cX4_grows 17 = .ok (.ireturn, 1) := by decide +kernel
theorem dX4_grows_18 : decode cX4_grows 18 = .ok (.aload_n 0, 1) := by decide +kernel
theorem dX4_grows_19 : decode cX4_grows 19 = .ok (.iload_n 1, 1) := by decide +kernel
theorem dX4_grows_20 : decode cX4_grows 20 = .ok (.invokevirtual 142, 3) := by decide +kernel
theorem dX4_grows_23 : decode cX4_grows 23 = .ok (.aload_n 0, 1) := by decide +kernel
theorem dX4_grows_24 : decode cX4_grows 24 = .ok (.getfield 19, 3) := by decide +kernel
theorem dX4_grows_27 : decode cX4_grows 27 = .ok (.invokevirtual 146, 3) := by decide +kernel
theorem dX4_grows_30 : decode cX4_grows 30 = .ok (.aload_n 0, 1) := by decide +kernel
theorem dX4_grows_31 : decode cX4_grows 31 = .ok (.getfield 10, 3) := by decide +kernel
theorem dX4_grows_34 : decode cX4_grows 34 = .ok (.invokevirtual 146, 3) := by decide +kernel
theorem dX4_grows_37 : decode cX4_grows 37 = .ok (.isub, 1) := by decide +kernel
theorem dX4_grows_38 : decode cX4_grows 38 = .ok (.istore_n 3, 1) := by decide +kernel
theorem dX4_grows_39 : decode cX4_grows 39 = .ok (.iload_n 3, 1) := by decide +kernel
theorem dX4_grows_40 : decode cX4_grows 40 = .ok (.ifCond .le 7, 3) := by decide +kernel
theorem dX4_grows_43 : decode cX4_grows 43 = .ok (.iconst 1, 1) := by decide +kernel
theorem dX4_grows_44 : decode cX4_grows 44 = .ok (.goto 12, 3) := by decide +kernel
theorem dX4_grows_47 : decode cX4_grows 47 = .ok (.iload_n 3, 1) := by decide +kernel
theorem dX4_grows_48 : decode cX4_grows 48 = .ok (.ifCond .ne 7, 3) := by decide +kernel
theorem dX4_grows_51 : decode cX4_grows 51 = .ok (.iconst 0, 1) := by decide +kernel
theorem dX4_grows_52 : decode cX4_grows 52 = .ok (.goto 4, 3) := by decide +kernel
theorem dX4_grows_55 : decode cX4_grows 55 = .ok (.iconst 2, 1) := by decide +kernel
theorem dX4_grows_56 : decode cX4_grows 56 = .ok (.ireturn, 1) := by decide +kernel
theorem dX4_rest_0 : decode cX4_rest 0 = .ok (.aload_n 0, 1) := by decide +kernel
theorem dX4_rest_1 : decode cX4_rest 1 = .ok (.getfield 19, 3) := by decide +kernel
theorem dX4_rest_4 : decode cX4_rest 4 = .ok (.aload_n 0, 1) := by decide +kernel
theorem dX4_rest_5 : decode cX4_rest 5 = .ok (.getfield 10, 3) := by decide +kernel
theorem dX4_rest_8 : decode cX4_rest 8 = .ok (.invokevirtual 149, 3) := by decide +kernel
theorem dX4_rest_11 : decode cX4_rest 11 = .ok (.iconst 0, 1) := by decide +kernel
theorem dX4_rest_12 : decode cX4_rest 12 = .ok (.istore_n 1, 1) := by decide +kernel
theorem dX4_rest_13 : decode cX4_rest 13 = .ok (.iconst 1, 1) := by decide +kernel
theorem dX4_rest_14 : decode cX4_rest 14 = .ok (.istore_n 2, 1) := by decide +kernel
theorem dX4_rest_15 : decode cX4_rest 15 = .ok (.iload_n 2, 1) := by decide +kernel
theorem dX4_rest_16 : decode cX4_rest 16 = .ok (.bipush 60, 2) := by decide +kernel
theorem dX4_rest_18 : decode cX4_rest 18 = .ok (.if_icmp .gt 33, 3) := by decide +kernel
theorem dX4_rest_21 : decode cX4_rest 21 = .ok (.aload_n 0, 1) := by decide +kernel
theorem dX4_rest_22 : decode cX4_rest 22 = .ok (.invokevirtual 156, 3) := by decide +kernel
theorem dX4_rest_25 : decode cX4_rest 25 = .ok (.ifCond .eq 9, 3) := by decide +kernel
theorem dX4_rest_28 : decode cX4_rest 28 = .ok (.iload_n 1, 1) := by decide +kernel
theorem dX4_rest_29 : decode cX4_rest 29 = .ok (.iconst 1, 1) := by decide +kernel
theorem dX4_rest_30 : decode cX4_rest 30 = .ok (.iadd, 1) := by decide +kernel
theorem dX4_rest_31 : decode cX4_rest 31 = .ok (.goto 4, 3) := by decide +kernel
theorem dX4_rest_34 : decode cX4_rest 34 = .ok (.iconst 0, 1) := by decide +kernel
theorem dX4_rest_35 : decode cX4_rest 35 = .ok (.istore_n 1, 1) := by decide +kernel
theorem dX4_rest_36 : decode cX4_rest 36 = .ok (.iload_n 1, 1) := by decide +kernel
theorem dX4_rest_37 : decode cX4_rest 37 = .ok (.iconst 2, 1) := by decide +kernel
theorem dX4_rest_38 : decode cX4_rest 38 = .ok (.if_icmp .ne 7, 3) := by decide +kernel
theorem dX4_rest_41 : decode cX4_rest 41 = .ok (.iload_n 2, 1) := by decide +kernel
theorem dX4_rest_42 : decode cX4_rest 42 = .ok (.iconst 2, 1) := by decide +kernel
theorem dX4_rest_43 : decode cX4_rest 43 = .ok (.isub, 1) := by decide +kernel
theorem dX4_rest_44 : decode cX4_rest 44 = .ok (.ireturn, 1) := by decide +kernel
theorem dX4_rest_45 : decode cX4_rest 45 = .ok (.iinc 2 1, 3) := by decide +kernel
theorem dX4_rest_48 : decode cX4_rest 48 = .ok (.goto (-33), 3) := by decide +kernel
theorem dX4_rest_51 : decode cX4_rest 51 = .ok (.bipush (-9), 2) := by decide +kernel
theorem dX4_rest_53 : decode cX4_rest 53 = .ok (.ireturn, 1) := by decide +kernel
theorem dX4_most_0 : decode cX4_most 0 = .ok (.aload_n 0, 1) := by decide +kernel
theorem dX4_most_1 : decode cX4_most 1 = .ok (.iload_n 1, 1) := by decide +kernel
theorem dX4_most_2 : decode cX4_most 2 = .ok (.iload_n 2, 1) := by decide +kernel
theorem dX4_most_3 : decode cX4_most 3 = .ok (.iconst 1, 1) := by decide +kernel
theorem dX4_most_4 : decode cX4_most 4 = .ok (.bipush 6, 2) := by decide +kernel
theorem dX4_most_6 : decode cX4_most 6 = .ok (.invokevirtual 138, 3) := by decide +kernel
theorem dX4_most_9 : decode cX4_most 9 = .ok (.istore_n 3, 1) := by decide +kernel
theorem dX4_most_10 : decode cX4_most 10 = .ok (.iload_n 3, 1) := by decide +kernel
theorem dX4_most_11 : decode cX4_most 11 = .ok (.ifCond .eq 9, 3) := by decide +kernel
theorem dX4_most_14 : decode cX4_most 14 = .ok (.aload_n 0, 1) := by decide +kernel
theorem dX4_most_15 : decode cX4_most 15 = .ok (.iload_n 3, 1) := by decide +kernel
theorem dX4_most_16 : decode cX4_most 16 = .ok (.invokevirtual 46, 3) := by decide +kernel
theorem dX4_most_19 : decode cX4_most 19 = .ok (.ireturn, 1) := by decide +kernel
theorem dX4_most_20 : decode cX4_most 20 = .ok (.aload_n 0, 1) := by decide +kernel
theorem dX4_most_21 : decode cX4_most 21 = .ok (.getfield 25, 3) := by decide +kernel
theorem dX4_most_24 : decode cX4_most 24 = .ok (.aload_n 0, 1) := by decide +kernel
theorem dX4_most_25 : decode cX4_most 25 = .ok (.getfield 10, 3) := by decide +kernel
theorem dX4_most_28 : decode cX4_most 28 = .ok (.iload_n 1, 1) := by decide +kernel
theorem dX4_most_29 : decode cX4_most 29 = .ok (.iload_n 2, 1) := by decide +kernel
theorem dX4_most_30 : decode cX4_most 30 = .ok (.iconst 0, 1) := by decide +kernel
theorem dX4_most_31 : decode cX4_most 31 = .ok (.invokevirtual 159, 3) := by decide +kernel
theorem dX4_most_34 : decode cX4_most 34 = .ok (.aload_n 0, 1) := by decide +kernel
theorem dX4_most_35 : decode cX4_most 35 = .ok (.getfield 25, 3) := by decide +kernel
theorem dX4_most_38 : decode cX4_most 38 = .ok (.getfield 163, 3) := by decide +kernel
theorem dX4_most_41 : decode cX4_most 41 = .ok (.ireturn, 1) := by decide +kernel
theorem dX4_choice_0 : decode cX4_choice 0 = .ok (.aload_n 0, 1) := by decide +kernel
theorem dX4_choice_1 : decode cX4_choice 1 = .ok (.iload_n 1, 1) := by decide +kernel
theorem dX4_choice_2 : decode cX4_choice 2 = .ok (.iload_n 2, 1) := by decide +kernel
theorem dX4_choice_3 : decode cX4_choice 3 = .ok (.iconst 1, 1) := by decide +kernel
theorem dX4_choice_4 : decode cX4_choice 4 = .ok (.bipush 6, 2) := by decide +kernel
theorem dX4_choice_6 : decode cX4_choice 6 = .ok (.invokevirtual 138, 3) := by decide +kernel
theorem dX4_choice_9 : decode cX4_choice 9 = .ok (.istore 4, 2) := by decide +kernel
theorem dX4_choice_11 : decode cX4_choice 11 = .ok (.iload 4, 2) := by decide +kernel
theorem dX4_choice_13 : decode cX4_choice 13 = .ok (.iconst (-1), 1) := by decide +kernel
theorem dX4_choice_14 : decode cX4_choice 14 = .ok (.if_icmp .eq 11, 3) := by decide +kernel
theorem dX4_choice_17 : decode cX4_choice 17 = .ok (.iload_n 3, 1) := by decide +kernel
theorem dX4_choice_18 : decode cX4_choice 18 = .ok (.ifCond .ge 7, 3) := by decide +kernel
theorem dX4_choice_21 : decode cX4_choice 21 = .ok (.bipush (-4), 2) := by decide +kernel
theorem dX4_choice_23 : decode cX4_choice 23 = .ok (.istore 4, 2) := by decide +kernel
theorem dX4_choice_25 : decode cX4_choice 25 = .ok (.iload 4, 2) := by decide +kernel
theorem dX4_choice_27 : decode cX4_choice 27 = .ok (.ifCond .eq 10, 3) := by decide +kernel
theorem dX4_choice_30 : decode cX4_choice 30 = .ok (.aload_n 0, 1) := by decide +kernel
theorem dX4_choice_31 : decode cX4_choice 31 = .ok (.iload 4, 2) := by decide +kernel
theorem dX4_choice_33 : decode cX4_choice 33 = .ok (.invokevirtual 46, 3) := by decide +kernel
theorem dX4_choice_36 : decode cX4_choice 36 = .ok (.ireturn, 1) := by decide +kernel
theorem dX4_choice_37 : decode cX4_choice 37 = .ok (.iload_n 3, 1) := by decide +kernel
theorem dX4_choice_38 : decode cX4_choice 38 = .ok (.iload_n 2, 1) := by decide +kernel
theorem dX4_choice_39 : decode cX4_choice 39 = .ok (.if_icmp .lt 6, 3) := by decide +kernel
theorem dX4_choice_42 : decode cX4_choice 42 = .ok (.bipush (-9), 2) := by decide +kernel
theorem dX4_choice_44 : decode cX4_choice 44 = .ok (.ireturn, 1) := by decide +kernel
theorem dX4_choice_45 : decode cX4_choice 45 = .ok (.aload_n 0, 1) := by decide +kernel
theorem dX4_choice_46 : decode cX4_choice 46 = .ok (.getfield 25, 3) := by decide +kernel
theorem dX4_choice_49 : decode cX4_choice 49 = .ok (.aload_n 0, 1) := by decide +kernel
theorem dX4_choice_50 : decode cX4_choice 50 = .ok (.getfield 10, 3) := by decide +kernel
theorem dX4_choice_53 : decode cX4_choice 53 = .ok (.iload_n 1, 1) := by decide +kernel
theorem dX4_choice_54 : decode cX4_choice 54 = .ok (.iload_n 2, 1) := by decide +kernel
theorem dX4_choice_55 : decode cX4_choice 55 = .ok (.iconst 0, 1) := by decide +kernel
theorem dX4_choice_56 : decode cX4_choice 56 = .ok (.invokevirtual 159, 3) := by decide +kernel
theorem dX4_choice_59 : decode cX4_choice 59 = .ok (.aload_n 0, 1) := by decide +kernel
theorem dX4_choice_60 : decode cX4_choice 60 = .ok (.getfield 25, 3) := by decide +kernel
theorem dX4_choice_63 : decode cX4_choice 63 = .ok (.getfield 166, 3) := by decide +kernel
theorem dX4_choice_66 : decode cX4_choice 66 = .ok (.iload_n 3, 1) := by decide +kernel
theorem dX4_choice_67 : decode cX4_choice 67 = .ok (.iaload, 1) := by decide +kernel
theorem dX4_choice_68 : decode cX4_choice 68 = .ok (.ireturn, 1) := by decide +kernel
theorem dX4_gap_0 : decode cX4_gap 0 = .ok (.aload_n 0, 1) := by decide +kernel
theorem dX4_gap_1 : decode cX4_gap 1 = .ok (.iload_n 1, 1) := by decide +kernel
theorem dX4_gap_2 : decode cX4_gap 2 = .ok (.iload_n 2, 1) := by decide +kernel
theorem dX4_gap_3 : decode cX4_gap 3 = .ok (.iconst 1, 1) := by decide +kernel
theorem dX4_gap_4 : decode cX4_gap 4 = .ok (.bipush 6, 2) := by decide +kernel
theorem dX4_gap_6 : decode cX4_gap 6 = .ok (.invokevirtual 138, 3) := by decide +kernel
theorem dX4_gap_9 : decode cX4_gap 9 = .ok (.istore_n 3, 1) := by decide +kernel
theorem dX4_gap_10 : decode cX4_gap 10 = .ok (.iload_n 3, 1) := by decide +kernel
theorem dX4_gap_11 : decode cX4_gap 11 = .ok (.ifCond .eq 12, 3) := by decide +kernel
theorem dX4_gap_14 : decode cX4_gap 14 = .ok (.ldc 169, 2) := by decide +kernel
theorem dX4_gap_16 : decode cX4_gap 16 = .ok (.aload_n 0, 1) := by decide +kernel
theorem dX4_gap_17 : decode cX4_gap 17 = .ok (.iload_n 3, 1) := by decide +kernel
theorem dX4_gap_18 : decode cX4_gap 18 = .ok (.invokevirtual 46, 3) := by decide +kernel
theorem dX4_gap_21 : decode cX4_gap 21 = .ok (.isub, 1) := by decide +kernel
theorem dX4_gap_22 : decode cX4_gap 22 = .ok (.ireturn, 1) := by decide +kernel
theorem dX4_gap_23 : decode cX4_gap 23 = .ok (.aload_n 0, 1) := by decide +kernel
theorem dX4_gap_24 : decode cX4_gap 24 = .ok (.getfield 25, 3) := by decide +kernel
theorem dX4_gap_27 : decode cX4_gap 27 = .ok (.aload_n 0, 1) := by decide +kernel
theorem dX4_gap_28 : decode cX4_gap 28 = .ok (.getfield 10, 3) := by decide +kernel
theorem dX4_gap_31 : decode cX4_gap 31 = .ok (.iload_n 1, 1) := by decide +kernel
theorem dX4_gap_32 : decode cX4_gap 32 = .ok (.iload_n 2, 1) := by decide +kernel
theorem dX4_gap_33 : decode cX4_gap 33 = .ok (.iconst 0, 1) := by decide +kernel
theorem dX4_gap_34 : decode cX4_gap 34 = .ok (.invokevirtual 159, 3) := by decide +kernel
theorem dX4_gap_37 : decode cX4_gap 37 = .ok (.aload_n 0, 1) := by decide +kernel
theorem dX4_gap_38 : decode cX4_gap 38 = .ok (.iload_n 2, 1) := by decide +kernel
theorem dX4_gap_39 : decode cX4_gap 39 = .ok (.invokevirtual 142, 3) := by decide +kernel
theorem dX4_gap_42 : decode cX4_gap 42 = .ok (.aload_n 0, 1) := by decide +kernel
theorem dX4_gap_43 : decode cX4_gap 43 = .ok (.getfield 25, 3) := by decide +kernel
theorem dX4_gap_46 : decode cX4_gap 46 = .ok (.getfield 163, 3) := by decide +kernel
theorem dX4_gap_49 : decode cX4_gap 49 = .ok (.aload_n 0, 1) := by decide +kernel
theorem dX4_gap_50 : decode cX4_gap 50 = .ok (.getfield 19, 3) := by decide +kernel
theorem dX4_gap_53 : decode cX4_gap 53 = .ok (.getfield 77, 3) := by decide +kernel
theorem dX4_gap_56 : decode cX4_gap 56 = .ok (.iload_n 1, 1) := by decide +kernel
theorem dX4_gap_57 : decode cX4_gap 57 = .ok (.iaload, 1) := by decide +kernel
theorem dX4_gap_58 : decode cX4_gap 58 = .ok (.isub, 1) := by decide +kernel
theorem dX4_gap_59 : decode cX4_gap 59 = .ok (.ireturn, 1) := by decide +kernel
theorem dX4_feast_0 : decode cX4_feast 0 = .ok (.aload_n 0, 1) := by decide +kernel
theorem dX4_feast_1 : decode cX4_feast 1 = .ok (.iload_n 1, 1) := by decide +kernel
theorem dX4_feast_2 : decode cX4_feast 2 = .ok (.iload_n 2, 1) := by decide +kernel
theorem dX4_feast_3 : decode cX4_feast 3 = .ok (.iconst 1, 1) := by decide +kernel
theorem dX4_feast_4 : decode cX4_feast 4 = .ok (.bipush 6, 2) := by decide +kernel
theorem dX4_feast_6 : decode cX4_feast 6 = .ok (.invokestatic 111, 3) := by decide +kernel
theorem dX4_feast_9 : decode cX4_feast 9 = .ok (.iload_n 3, 1) := by decide +kernel
theorem dX4_feast_10 : decode cX4_feast 10 = .ok (.iconst 0, 1) := by decide +kernel
theorem dX4_feast_11 : decode cX4_feast 11 = .ok (.sipush 9999, 3) := by decide +kernel
theorem dX4_feast_14 : decode cX4_feast 14 = .ok (.invokestatic 111, 3) := by decide +kernel
theorem dX4_feast_17 : decode cX4_feast 17 = .ok (.invokevirtual 170, 3) := by decide +kernel
theorem dX4_feast_20 : decode cX4_feast 20 = .ok (.istore 4, 2) := by decide +kernel
theorem dX4_feast_22 : decode cX4_feast 22 = .ok (.iload 4, 2) := by decide +kernel
theorem dX4_feast_24 : decode cX4_feast 24 = .ok (.ifCond .eq 10, 3) := by decide +kernel
theorem dX4_feast_27 : decode cX4_feast 27 = .ok (.aload_n 0, 1) := by decide +kernel
theorem dX4_feast_28 : decode cX4_feast 28 = .ok (.iload 4, 2) := by decide +kernel
theorem dX4_feast_30 : decode cX4_feast 30 = .ok (.invokevirtual 46, 3) := by decide +kernel
theorem dX4_feast_33 : decode cX4_feast 33 = .ok (.ireturn, 1) := by decide +kernel
theorem dX4_feast_34 : decode cX4_feast 34 = .ok (.aload_n 0, 1) := by decide +kernel
theorem dX4_feast_35 : decode cX4_feast 35 = .ok (.getfield 25, 3) := by decide +kernel
theorem dX4_feast_38 : decode cX4_feast 38 = .ok (.aload_n 0, 1) := by decide +kernel
theorem dX4_feast_39 : decode cX4_feast 39 = .ok (.getfield 10, 3) := by decide +kernel
theorem dX4_feast_42 : decode cX4_feast 42 = .ok (.iload_n 1, 1) := by decide +kernel
theorem dX4_feast_43 : decode cX4_feast 43 = .ok (.iload_n 2, 1) := by decide +kernel
theorem dX4_feast_44 : decode cX4_feast 44 = .ok (.iload_n 3, 1) := by decide +kernel
theorem dX4_feast_45 : decode cX4_feast 45 = .ok (.invokevirtual 159, 3) := by decide +kernel
theorem dX4_feast_48 : decode cX4_feast 48 = .ok (.aload_n 0, 1) := by decide +kernel
theorem dX4_feast_49 : decode cX4_feast 49 = .ok (.getfield 25, 3) := by decide +kernel
theorem dX4_feast_52 : decode cX4_feast 52 = .ok (.getfield 173, 3) := by decide +kernel
theorem dX4_feast_55 : decode cX4_feast 55 = .ok (.ireturn, 1) := by decide +kernel
theorem dX4_begins_0 : decode cX4_begins 0 = .ok (.aload_n 0, 1) := by decide +kernel
end
section
theorem dX4_begins_1 : decode cX4_begins 1 = .ok (.getfield 10, 3) := by decide +kernel
theorem dX4_begins_4 : decode cX4_begins 4 = .ok (.invokevirtual 176, 3) := by decide +kernel
theorem dX4_begins_7 : decode cX4_begins 7 = .ok (.ireturn, 1) := by decide +kernel
theorem dX4_helps_0 : decode cX4_helps 0 = .ok (.aload_n 0, 1) := by decide +kernel
theorem dX4_helps_1 : decode cX4_helps 1 = .ok (.getfield 10, 3) := by decide +kernel
theorem dX4_helps_4 : decode cX4_helps 4 = .ok (.invokevirtual 176, 3) := by decide +kernel
theorem dX4_helps_7 : decode cX4_helps 7 = .ok (.invokestatic 179, 3) := by decide +kernel
theorem dX4_helps_10 : decode cX4_helps 10 = .ok (.istore_n 1, 1) := by decide +kernel
theorem dX4_helps_11 : decode cX4_helps 11 = .ok (.iload_n 1, 1) := by decide +kernel
theorem dX4_helps_12 : decode cX4_helps 12 = .ok (.ifCond .ne 8, 3) := by decide +kernel
theorem dX4_helps_15 : decode cX4_helps 15 = .ok (.bipush (-9), 2) := by decide +kernel
theorem dX4_helps_17 : decode cX4_helps 17 = .ok (.goto 11, 3) := by decide +kernel
theorem dX4_helps_20 : decode cX4_helps 20 = .ok (.aload_n 0, 1) := by decide +kernel
theorem dX4_helps_21 : decode cX4_helps 21 = .ok (.getfield 10, 3) := by decide +kernel
theorem dX4_helps_24 : decode cX4_helps 24 = .ok (.iload_n 1, 1) := by decide +kernel
theorem dX4_helps_25 : decode cX4_helps 25 = .ok (.invokevirtual 153, 3) := by decide +kernel
theorem dX4_helps_28 : decode cX4_helps 28 = .ok (.ireturn, 1) := by decide +kernel
theorem dX4_byLaw_0 : decode cX4_byLaw 0 = .ok (.iload_n 1, 1) := by decide +kernel
theorem dX4_byLaw_1 : decode cX4_byLaw 1 = .ok (.ifCond .lt 8, 3) := by decide +kernel
theorem dX4_byLaw_4 : decode cX4_byLaw 4 = .ok (.iload_n 1, 1) := by decide +kernel
theorem dX4_byLaw_5 : decode cX4_byLaw 5 = .ok (.iconst 5, 1) := by decide +kernel
theorem dX4_byLaw_6 : decode cX4_byLaw 6 = .ok (.if_icmp .le 10, 3) := by decide +kernel
theorem dX4_byLaw_9 : decode cX4_byLaw 9 = .ok (.aload_n 0, 1) := by decide +kernel
theorem dX4_byLaw_10 : decode cX4_byLaw 10 = .ok (.bipush (-2), 2) := by decide +kernel
theorem dX4_byLaw_12 : decode cX4_byLaw 12 = .ok (.invokevirtual 46, 3) := by decide +kernel
theorem dX4_byLaw_15 : decode cX4_byLaw 15 = .ok (.ireturn, 1) := by decide +kernel
theorem dX4_byLaw_16 : decode cX4_byLaw 16 = .ok (.aload_n 0, 1) := by decide +kernel
theorem dX4_byLaw_17 : decode cX4_byLaw 17 = .ok (.iload_n 2, 1) := by decide +kernel
theorem dX4_byLaw_18 : decode cX4_byLaw 18 = .ok (.iload_n 3, 1) := by decide +kernel
theorem dX4_byLaw_19 : decode cX4_byLaw 19 = .ok (.iconst 0, 1) := by decide +kernel
theorem dX4_byLaw_20 : decode cX4_byLaw 20 = .ok (.bipush 60, 2) := by decide +kernel
theorem dX4_byLaw_22 : decode cX4_byLaw 22 = .ok (.invokevirtual 138, 3) := by decide +kernel
theorem dX4_byLaw_25 : decode cX4_byLaw 25 = .ok (.istore 4, 2) := by decide +kernel
theorem dX4_byLaw_27 : decode cX4_byLaw 27 = .ok (.iload 4, 2) := by decide +kernel
theorem dX4_byLaw_29 : decode cX4_byLaw 29 = .ok (.ifCond .eq 10, 3) := by decide +kernel
theorem dX4_byLaw_32 : decode cX4_byLaw 32 = .ok (.aload_n 0, 1) := by decide +kernel
theorem dX4_byLaw_33 : decode cX4_byLaw 33 = .ok (.iload 4, 2) := by decide +kernel
theorem dX4_byLaw_35 : decode cX4_byLaw 35 = .ok (.invokevirtual 46, 3) := by decide +kernel
theorem dX4_byLaw_38 : decode cX4_byLaw 38 = .ok (.ireturn, 1) := by decide +kernel
theorem dX4_byLaw_39 : decode cX4_byLaw 39 = .ok (.aload_n 0, 1) := by decide +kernel
theorem dX4_byLaw_40 : decode cX4_byLaw 40 = .ok (.iload_n 1, 1) := by decide +kernel
theorem dX4_byLaw_41 : decode cX4_byLaw 41 = .ok (.iload_n 2, 1) := by decide +kernel
theorem dX4_byLaw_42 : decode cX4_byLaw 42 = .ok (.iload_n 3, 1) := by decide +kernel
theorem dX4_byLaw_43 : decode cX4_byLaw 43 = .ok (.invokevirtual 184, 3) := by decide +kernel
theorem dX4_byLaw_46 : decode cX4_byLaw 46 = .ok (.ireturn, 1) := by decide +kernel
theorem dX4_byBack_0 : decode cX4_byBack 0 = .ok (.aload_n 0, 1) := by decide +kernel
theorem dX4_byBack_1 : decode cX4_byBack 1 = .ok (.iload_n 2, 1) := by decide +kernel
theorem dX4_byBack_2 : decode cX4_byBack 2 = .ok (.iload_n 1, 1) := by decide +kernel
theorem dX4_byBack_3 : decode cX4_byBack 3 = .ok (.iconst 0, 1) := by decide +kernel
theorem dX4_byBack_4 : decode cX4_byBack 4 = .ok (.iconst 5, 1) := by decide +kernel
theorem dX4_byBack_5 : decode cX4_byBack 5 = .ok (.invokestatic 111, 3) := by decide +kernel
theorem dX4_byBack_8 : decode cX4_byBack 8 = .ok (.iload_n 3, 1) := by decide +kernel
theorem dX4_byBack_9 : decode cX4_byBack 9 = .ok (.iconst 0, 1) := by decide +kernel
theorem dX4_byBack_10 : decode cX4_byBack 10 = .ok (.bipush 60, 2) := by decide +kernel
theorem dX4_byBack_12 : decode cX4_byBack 12 = .ok (.invokestatic 111, 3) := by decide +kernel
theorem dX4_byBack_15 : decode cX4_byBack 15 = .ok (.invokevirtual 170, 3) := by decide +kernel
theorem dX4_byBack_18 : decode cX4_byBack 18 = .ok (.istore 4, 2) := by decide +kernel
theorem dX4_byBack_20 : decode cX4_byBack 20 = .ok (.iload 4, 2) := by decide +kernel
theorem dX4_byBack_22 : decode cX4_byBack 22 = .ok (.ifCond .eq 10, 3) := by decide +kernel
theorem dX4_byBack_25 : decode cX4_byBack 25 = .ok (.aload_n 0, 1) := by decide +kernel
theorem dX4_byBack_26 : decode cX4_byBack 26 = .ok (.iload 4, 2) := by decide +kernel
theorem dX4_byBack_28 : decode cX4_byBack 28 = .ok (.invokevirtual 46, 3) := by decide +kernel
theorem dX4_byBack_31 : decode cX4_byBack 31 = .ok (.ireturn, 1) := by decide +kernel
theorem dX4_byBack_32 : decode cX4_byBack 32 = .ok (.aload_n 0, 1) := by decide +kernel
theorem dX4_byBack_33 : decode cX4_byBack 33 = .ok (.getfield 19, 3) := by decide +kernel
theorem dX4_byBack_36 : decode cX4_byBack 36 = .ok (.aload_n 0, 1) := by decide +kernel
theorem dX4_byBack_37 : decode cX4_byBack 37 = .ok (.getfield 10, 3) := by decide +kernel
theorem dX4_byBack_40 : decode cX4_byBack 40 = .ok (.invokevirtual 149, 3) := by decide +kernel
theorem dX4_byBack_43 : decode cX4_byBack 43 = .ok (.aload_n 0, 1) := by decide +kernel
theorem dX4_byBack_44 : decode cX4_byBack 44 = .ok (.getfield 19, 3) := by decide +kernel
theorem dX4_byBack_47 : decode cX4_byBack 47 = .ok (.iconst 2, 1) := by decide +kernel
theorem dX4_byBack_48 : decode cX4_byBack 48 = .ok (.iload_n 1, 1) := by decide +kernel
theorem dX4_byBack_49 : decode cX4_byBack 49 = .ok (.invokevirtual 114, 3) := by decide +kernel
theorem dX4_byBack_52 : decode cX4_byBack 52 = .ok (.pop, 1) := by decide +kernel
theorem dX4_byBack_53 : decode cX4_byBack 53 = .ok (.aload_n 0, 1) := by decide +kernel
theorem dX4_byBack_54 : decode cX4_byBack 54 = .ok (.getfield 19, 3) := by decide +kernel
theorem dX4_byBack_57 : decode cX4_byBack 57 = .ok (.iload_n 3, 1) := by decide +kernel
theorem dX4_byBack_58 : decode cX4_byBack 58 = .ok (.invokevirtual 187, 3) := by decide +kernel
theorem dX4_byBack_61 : decode cX4_byBack 61 = .ok (.aload_n 0, 1) := by decide +kernel
theorem dX4_byBack_62 : decode cX4_byBack 62 = .ok (.getfield 19, 3) := by decide +kernel
theorem dX4_byBack_65 : decode cX4_byBack 65 = .ok (.getfield 77, 3) := by decide +kernel
theorem dX4_byBack_68 : decode cX4_byBack 68 = .ok (.iload_n 2, 1) := by decide +kernel
theorem dX4_byBack_69 : decode cX4_byBack 69 = .ok (.iaload, 1) := by decide +kernel
theorem dX4_byBack_70 : decode cX4_byBack 70 = .ok (.ireturn, 1) := by decide +kernel
theorem dX4_leastLaw_0 : decode cX4_leastLaw 0 = .ok (.aload_n 0, 1) := by decide +kernel
theorem dX4_leastLaw_1 : decode cX4_leastLaw 1 = .ok (.iload_n 1, 1) := by decide +kernel
theorem dX4_leastLaw_2 : decode cX4_leastLaw 2 = .ok (.iload_n 2, 1) := by decide +kernel
theorem dX4_leastLaw_3 : decode cX4_leastLaw 3 = .ok (.iconst 0, 1) := by decide +kernel
theorem dX4_leastLaw_4 : decode cX4_leastLaw 4 = .ok (.bipush 60, 2) := by decide +kernel
theorem dX4_leastLaw_6 : decode cX4_leastLaw 6 = .ok (.invokevirtual 138, 3) := by decide +kernel
theorem dX4_leastLaw_9 : decode cX4_leastLaw 9 = .ok (.istore_n 3, 1) := by decide +kernel
theorem dX4_leastLaw_10 : decode cX4_leastLaw 10 = .ok (.iload_n 3, 1) := by decide +kernel
theorem dX4_leastLaw_11 : decode cX4_leastLaw 11 = .ok (.ifCond .eq 9, 3) := by decide +kernel
theorem dX4_leastLaw_14 : decode cX4_leastLaw 14 = .ok (.aload_n 0, 1) := by decide +kernel
theorem dX4_leastLaw_15 : decode cX4_leastLaw 15 = .ok (.iload_n 3, 1) := by decide +kernel
theorem dX4_leastLaw_16 : decode cX4_leastLaw 16 = .ok (.invokevirtual 46, 3) := by decide +kernel
theorem dX4_leastLaw_19 : decode cX4_leastLaw 19 = .ok (.ireturn, 1) := by decide +kernel
theorem dX4_leastLaw_20 : decode cX4_leastLaw 20 = .ok (.iconst 0, 1) := by decide +kernel
theorem dX4_leastLaw_21 : decode cX4_leastLaw 21 = .ok (.istore 4, 2) := by decide +kernel
theorem dX4_leastLaw_23 : decode cX4_leastLaw 23 = .ok (.aload_n 0, 1) := by decide +kernel
theorem dX4_leastLaw_24 : decode cX4_leastLaw 24 = .ok (.iconst 0, 1) := by decide +kernel
theorem dX4_leastLaw_25 : decode cX4_leastLaw 25 = .ok (.iload_n 1, 1) := by decide +kernel
theorem dX4_leastLaw_26 : decode cX4_leastLaw 26 = .ok (.iload_n 2, 1) := by decide +kernel
theorem dX4_leastLaw_27 : decode cX4_leastLaw 27 = .ok (.invokevirtual 184, 3) := by decide +kernel
theorem dX4_leastLaw_30 : decode cX4_leastLaw 30 = .ok (.istore 5, 2) := by decide +kernel
theorem dX4_leastLaw_32 : decode cX4_leastLaw 32 = .ok (.iconst 1, 1) := by decide +kernel
theorem dX4_leastLaw_33 : decode cX4_leastLaw 33 = .ok (.istore 6, 2) := by decide +kernel
theorem dX4_leastLaw_35 : decode cX4_leastLaw 35 = .ok (.iload 6, 2) := by decide +kernel
theorem dX4_leastLaw_37 : decode cX4_leastLaw 37 = .ok (.iconst 5, 1) := by decide +kernel
theorem dX4_leastLaw_38 : decode cX4_leastLaw 38 = .ok (.if_icmp .gt 34, 3) := by decide +kernel
theorem dX4_leastLaw_41 : decode cX4_leastLaw 41 = .ok (.aload_n 0, 1) := by decide +kernel
theorem dX4_leastLaw_42 : decode cX4_leastLaw 42 = .ok (.iload 6, 2) := by decide +kernel
theorem dX4_leastLaw_44 : decode cX4_leastLaw 44 = .ok (.iload_n 1, 1) := by decide +kernel
theorem dX4_leastLaw_45 : decode cX4_leastLaw 45 = .ok (.iload_n 2, 1) := by decide +kernel
theorem dX4_leastLaw_46 : decode cX4_leastLaw 46 = .ok (.invokevirtual 184, 3) := by decide +kernel
theorem dX4_leastLaw_49 : decode cX4_leastLaw 49 = .ok (.istore 7, 2) := by decide +kernel
theorem dX4_leastLaw_51 : decode cX4_leastLaw 51 = .ok (.iload 7, 2) := by decide +kernel
theorem dX4_leastLaw_53 : decode cX4_leastLaw 53 = .ok (.iload 5, 2) := by decide +kernel
theorem dX4_leastLaw_55 : decode cX4_leastLaw 55 = .ok (.if_icmp .ge 11, 3) := by decide +kernel
theorem dX4_leastLaw_58 : decode cX4_leastLaw 58 = .ok (.iload 6, 2) := by decide +kernel
theorem dX4_leastLaw_60 : decode cX4_leastLaw 60 = .ok (.istore 4, 2) := by decide +kernel
theorem dX4_leastLaw_62 : decode cX4_leastLaw 62 = .ok (.iload 7, 2) := by decide +kernel
theorem dX4_leastLaw_64 : decode cX4_leastLaw 64 = .ok (.istore 5, 2) := by decide +kernel
theorem dX4_leastLaw_66 : decode cX4_leastLaw 66 = .ok (.iinc 6 1, 3) := by decide +kernel
theorem dX4_leastLaw_69 : decode cX4_leastLaw 69 = .ok (.goto (-34), 3) := by decide +kernel
theorem dX4_leastLaw_72 : decode cX4_leastLaw 72 = .ok (.iload 4, 2) := by decide +kernel
theorem dX4_leastLaw_74 : decode cX4_leastLaw 74 = .ok (.ireturn, 1) := by decide +kernel
theorem dX4_row_0 : decode cX4_row 0 = .ok (.iload_n 1, 1) := by decide +kernel
theorem dX4_row_1 : decode cX4_row 1 = .ok (.ifCond .ge 10, 3) := by decide +kernel
theorem dX4_row_4 : decode cX4_row 4 = .ok (.aload_n 0, 1) := by decide +kernel
theorem dX4_row_5 : decode cX4_row 5 = .ok (.bipush (-4), 2) := by decide +kernel
theorem dX4_row_7 : decode cX4_row 7 = .ok (.invokevirtual 46, 3) := by decide +kernel
theorem dX4_row_10 : decode cX4_row 10 = .ok (.ireturn, 1) := by decide +kernel
theorem dX4_row_11 : decode cX4_row 11 = .ok (.iload_n 1, 1) := by decide +kernel
theorem dX4_row_12 : decode cX4_row 12 = .ok (.sipush 9999, 3) := by decide +kernel
theorem dX4_row_15 : decode cX4_row 15 = .ok (.if_icmp .gt 15, 3) := by decide +kernel
theorem dX4_row_18 : decode cX4_row 18 = .ok (.aload_n 0, 1) := by decide +kernel
theorem dX4_row_19 : decode cX4_row 19 = .ok (.getfield 190, 3) := by decide +kernel
theorem dX4_row_22 : decode cX4_row 22 = .ok (.aload_n 0, 1) := by decide +kernel
theorem dX4_row_23 : decode cX4_row 23 = .ok (.getfield 40, 3) := by decide +kernel
theorem dX4_row_26 : decode cX4_row 26 = .ok (.arraylength, 1) := by decide +kernel
theorem dX4_row_27 : decode cX4_row 27 = .ok (.if_icmp .lt 10, 3) := by decide +kernel
theorem dX4_row_30 : decode cX4_row 30 = .ok (.aload_n 0, 1) := by decide +kernel
theorem dX4_row_31 : decode cX4_row 31 = .ok (.bipush (-6), 2) := by decide +kernel
theorem dX4_row_33 : decode cX4_row 33 = .ok (.invokevirtual 46, 3) := by decide +kernel
theorem dX4_row_36 : decode cX4_row 36 = .ok (.ireturn, 1) := by decide +kernel
theorem dX4_row_37 : decode cX4_row 37 = .ok (.aload_n 0, 1) := by decide +kernel
theorem dX4_row_38 : decode cX4_row 38 = .ok (.getfield 40, 3) := by decide +kernel
theorem dX4_row_41 : decode cX4_row 41 = .ok (.aload_n 0, 1) := by decide +kernel
theorem dX4_row_42 : decode cX4_row 42 = .ok (.getfield 190, 3) := by decide +kernel
theorem dX4_row_45 : decode cX4_row 45 = .ok (.iload_n 1, 1) := by decide +kernel
theorem dX4_row_46 : decode cX4_row 46 = .ok (.iastore, 1) := by decide +kernel
theorem dX4_row_47 : decode cX4_row 47 = .ok (.aload_n 0, 1) := by decide +kernel
theorem dX4_row_48 : decode cX4_row 48 = .ok (.dup, 1) := by decide +kernel
theorem dX4_row_49 : decode cX4_row 49 = .ok (.getfield 190, 3) := by decide +kernel
theorem dX4_row_52 : decode cX4_row 52 = .ok (.iconst 1, 1) := by decide +kernel
theorem dX4_row_53 : decode cX4_row 53 = .ok (.iadd, 1) := by decide +kernel
theorem dX4_row_54 : decode cX4_row 54 = .ok (.putfield 190, 3) := by decide +kernel
theorem dX4_row_57 : decode cX4_row 57 = .ok (.aload_n 0, 1) := by decide +kernel
theorem dX4_row_58 : decode cX4_row 58 = .ok (.getfield 190, 3) := by decide +kernel
theorem dX4_row_61 : decode cX4_row 61 = .ok (.ireturn, 1) := by decide +kernel
theorem dX4_found_0 : decode cX4_found 0 = .ok (.aload_n 0, 1) := by decide +kernel
theorem dX4_found_1 : decode cX4_found 1 = .ok (.getfield 10, 3) := by decide +kernel
theorem dX4_found_4 : decode cX4_found 4 = .ok (.iload_n 1, 1) := by decide +kernel
theorem dX4_found_5 : decode cX4_found 5 = .ok (.invokevirtual 64, 3) := by decide +kernel
theorem dX4_found_8 : decode cX4_found 8 = .ok (.ifCond .ne 9, 3) := by decide +kernel
theorem dX4_found_11 : decode cX4_found 11 = .ok (.aload_n 0, 1) := by decide +kernel
theorem dX4_found_12 : decode cX4_found 12 = .ok (.iconst (-1), 1) := by decide +kernel
theorem dX4_found_13 : decode cX4_found 13 = .ok (.invokevirtual 46, 3) := by decide +kernel
theorem dX4_found_16 : decode cX4_found 16 = .ok (.ireturn, 1) := by decide +kernel
theorem dX4_found_17 : decode cX4_found 17 = .ok (.aload_n 0, 1) := by decide +kernel
theorem dX4_found_18 : decode cX4_found 18 = .ok (.iload_n 1, 1) := by decide +kernel
theorem dX4_found_19 : decode cX4_found 19 = .ok (.iconst 0, 1) := by decide +kernel
theorem dX4_found_20 : decode cX4_found 20 = .ok (.invokevirtual 193, 3) := by decide +kernel
theorem dX4_found_23 : decode cX4_found 23 = .ok (.ireturn, 1) := by decide +kernel
theorem dX4_judge_0 : decode cX4_judge 0 = .ok (.aload_n 0, 1) := by decide +kernel
theorem dX4_judge_1 : decode cX4_judge 1 = .ok (.getfield 10, 3) := by decide +kernel
theorem dX4_judge_4 : decode cX4_judge 4 = .ok (.iload_n 1, 1) := by decide +kernel
theorem dX4_judge_5 : decode cX4_judge 5 = .ok (.invokevirtual 64, 3) := by decide +kernel
theorem dX4_judge_8 : decode cX4_judge 8 = .ok (.ifCond .ne 9, 3) := by decide +kernel
theorem dX4_judge_11 : decode cX4_judge 11 = .ok (.aload_n 0, 1) := by decide +kernel
theorem dX4_judge_12 : decode cX4_judge 12 = .ok (.iconst (-1), 1) := by decide +kernel
theorem dX4_judge_13 : decode cX4_judge 13 = .ok (.invokevirtual 46, 3) := by decide +kernel
theorem dX4_judge_16 : decode cX4_judge 16 = .ok (.ireturn, 1) := by decide +kernel
theorem dX4_judge_17 : decode cX4_judge 17 = .ok (.aload_n 0, 1) := by decide +kernel
theorem dX4_judge_18 : decode cX4_judge 18 = .ok (.iload_n 1, 1) := by decide +kernel
theorem dX4_judge_19 : decode cX4_judge 19 = .ok (.iconst 1, 1) := by decide +kernel
theorem dX4_judge_20 : decode cX4_judge 20 = .ok (.invokevirtual 193, 3) := by decide +kernel
theorem dX4_judge_23 : decode cX4_judge 23 = .ok (.ireturn, 1) := by decide +kernel
theorem dX4_told_0 : decode cX4_told 0 = .ok (.aload_n 0, 1) := by decide +kernel
theorem dX4_told_1 : decode cX4_told 1 = .ok (.invokevirtual 197, 3) := by decide +kernel
theorem dX4_told_4 : decode cX4_told 4 = .ok (.istore_n 1, 1) := by decide +kernel
theorem dX4_told_5 : decode cX4_told 5 = .ok (.aload_n 0, 1) := by decide +kernel
theorem dX4_told_6 : decode cX4_told 6 = .ok (.iconst 0, 1) := by decide +kernel
theorem dX4_told_7 : decode cX4_told 7 = .ok (.putfield 190, 3) := by decide +kernel
theorem dX4_told_10 : decode cX4_told 10 = .ok (.iload_n 1, 1) := by decide +kernel
theorem dX4_told_11 : decode cX4_told 11 = .ok (.ireturn, 1) := by decide +kernel
theorem dX4_seeds_0 : decode cX4_seeds 0 = .ok (.iload_n 1, 1) := by decide +kernel
theorem dX4_seeds_1 : decode cX4_seeds 1 = .ok (.iconst 1, 1) := by decide +kernel
theorem dX4_seeds_2 : decode cX4_seeds 2 = .ok (.bipush 20, 2) := by decide +kernel
theorem dX4_seeds_4 : decode cX4_seeds 4 = .ok (.invokestatic 111, 3) := by decide +kernel
theorem dX4_seeds_7 : decode cX4_seeds 7 = .ok (.istore_n 3, 1) := by decide +kernel
theorem dX4_seeds_8 : decode cX4_seeds 8 = .ok (.iload_n 3, 1) := by decide +kernel
theorem dX4_seeds_9 : decode cX4_seeds 9 = .ok (.ifCond .ne 16, 3) := by decide +kernel
theorem dX4_seeds_12 : decode cX4_seeds 12 = .ok (.aload_n 0, 1) := by decide +kernel
theorem dX4_seeds_13 : decode cX4_seeds 13 = .ok (.getfield 10, 3) := by decide +kernel
theorem dX4_seeds_16 : decode cX4_seeds 16 = .ok (.getfield 200, 3) := by decide +kernel
theorem dX4_seeds_19 : decode cX4_seeds 19 = .ok (.ifCond .ne 6, 3) := by decide +kernel
theorem dX4_seeds_22 : decode cX4_seeds 22 = .ok (.bipush (-3), 2) := by decide +kernel
theorem dX4_seeds_24 : decode cX4_seeds 24 = .ok (.istore_n 3, 1) := by decide +kernel
theorem dX4_seeds_25 : decode cX4_seeds 25 = .ok (.iload_n 3, 1) := by decide +kernel
theorem dX4_seeds_26 : decode cX4_seeds 26 = .ok (.ifCond .eq 9, 3) := by decide +kernel
theorem dX4_seeds_29 : decode cX4_seeds 29 = .ok (.aload_n 0, 1) := by decide +kernel
theorem dX4_seeds_30 : decode cX4_seeds 30 = .ok (.iload_n 3, 1) := by decide +kernel
theorem dX4_seeds_31 : decode cX4_seeds 31 = .ok (.invokevirtual 46, 3) := by decide +kernel
theorem dX4_seeds_34 : decode cX4_seeds 34 = .ok (.ireturn, 1) := by decide +kernel
theorem dX4_seeds_35 : decode cX4_seeds 35 = .ok (.aload_n 0, 1) := by decide +kernel
theorem dX4_seeds_36 : decode cX4_seeds 36 = .ok (.getfield 19, 3) := by decide +kernel
theorem dX4_seeds_39 : decode cX4_seeds 39 = .ok (.aload_n 0, 1) := by decide +kernel
theorem dX4_seeds_40 : decode cX4_seeds 40 = .ok (.getfield 10, 3) := by decide +kernel
theorem dX4_seeds_43 : decode cX4_seeds 43 = .ok (.invokevirtual 149, 3) := by decide +kernel
theorem dX4_seeds_46 : decode cX4_seeds 46 = .ok (.iload_n 2, 1) := by decide +kernel
theorem dX4_seeds_47 : decode cX4_seeds 47 = .ok (.istore 4, 2) := by decide +kernel
theorem dX4_seeds_49 : decode cX4_seeds 49 = .ok (.iconst 0, 1) := by decide +kernel
theorem dX4_seeds_50 : decode cX4_seeds 50 = .ok (.istore 5, 2) := by decide +kernel
theorem dX4_seeds_52 : decode cX4_seeds 52 = .ok (.iload 5, 2) := by decide +kernel
theorem dX4_seeds_54 : decode cX4_seeds 54 = .ok (.iload_n 1, 1) := by decide +kernel
theorem dX4_seeds_55 : decode cX4_seeds 55 = .ok (.if_icmp .ge 61, 3) := by decide +kernel
theorem dX4_seeds_58 : decode cX4_seeds 58 = .ok (.iload 4, 2) := by decide +kernel
theorem dX4_seeds_60 : decode cX4_seeds 60 = .ok (.invokestatic 203, 3) := by decide +kernel
theorem dX4_seeds_63 : decode cX4_seeds 63 = .ok (.istore 4, 2) := by decide +kernel
theorem dX4_seeds_65 : decode cX4_seeds 65 = .ok (.iload 4, 2) := by decide +kernel
theorem dX4_seeds_67 : decode cX4_seeds 67 = .ok (.aload_n 0, 1) := by decide +kernel
theorem dX4_seeds_68 : decode cX4_seeds 68 = .ok (.getfield 19, 3) := by decide +kernel
theorem dX4_seeds_71 : decode cX4_seeds 71 = .ok (.getfield 200, 3) := by decide +kernel
theorem dX4_seeds_74 : decode cX4_seeds 74 = .ok (.invokestatic 206, 3) := by decide +kernel
theorem dX4_seeds_77 : decode cX4_seeds 77 = .ok (.istore 6, 2) := by decide +kernel
theorem dX4_seeds_79 : decode cX4_seeds 79 = .ok (.iload 4, 2) := by decide +kernel
theorem dX4_seeds_81 : decode cX4_seeds 81 = .ok (.invokestatic 203, 3) := by decide +kernel
theorem dX4_seeds_84 : decode cX4_seeds 84 = .ok (.istore 4, 2) := by decide +kernel
theorem dX4_seeds_86 : decode cX4_seeds 86 = .ok (.aload_n 0, 1) := by decide +kernel
theorem dX4_seeds_87 : decode cX4_seeds 87 = .ok (.getfield 19, 3) := by decide +kernel
theorem dX4_seeds_90 : decode cX4_seeds 90 = .ok (.iload 6, 2) := by decide +kernel
theorem dX4_seeds_92 : decode cX4_seeds 92 = .ok (.iload 4, 2) := by decide +kernel
theorem dX4_seeds_94 : decode cX4_seeds 94 = .ok (.bipush 10, 2) := by decide +kernel
theorem dX4_seeds_96 : decode cX4_seeds 96 = .ok (.invokestatic 206, 3) := by decide +kernel
theorem dX4_seeds_99 : decode cX4_seeds 99 = .ok (.invokevirtual 209, 3) := by decide +kernel
theorem dX4_seeds_102 : decode cX4_seeds 102 = .ok (.aload_n 0, 1) := by decide +kernel
theorem dX4_seeds_103 : decode cX4_seeds 103 = .ok (.getfield 19, 3) := by decide +kernel
theorem dX4_seeds_106 : decode cX4_seeds 106 = .ok (.invokevirtual 132, 3) := by decide +kernel
theorem dX4_seeds_109 : decode cX4_seeds 109 = .ok (.pop, 1) := by decide +kernel
theorem dX4_seeds_110 : decode cX4_seeds 110 = .ok (.iinc 5 1, 3) := by decide +kernel
theorem dX4_seeds_113 : decode cX4_seeds 113 = .ok (.goto (-61), 3) := by decide +kernel
theorem dX4_seeds_116 : decode cX4_seeds 116 = .ok (.aload_n 0, 1) := by decide +kernel
theorem dX4_seeds_117 : decode cX4_seeds 117 = .ok (.getfield 19, 3) := by decide +kernel
theorem dX4_seeds_120 : decode cX4_seeds 120 = .ok (.invokevirtual 146, 3) := by decide +kernel
theorem dX4_seeds_123 : decode cX4_seeds 123 = .ok (.ireturn, 1) := by decide +kernel
theorem dX4_image_0 : decode cX4_image 0 = .ok (.aload_n 0, 1) := by decide +kernel
theorem dX4_image_1 : decode cX4_image 1 = .ok (.getfield 16, 3) := by decide +kernel
theorem dX4_image_4 : decode cX4_image 4 = .ok (.aload_n 0, 1) := by decide +kernel
theorem dX4_image_5 : decode cX4_image 5 = .ok (.getfield 10, 3) := by decide +kernel
theorem dX4_image_8 : decode cX4_image 8 = .ok (.invokevirtual 149, 3) := by decide +kernel
theorem dX4_image_11 : decode cX4_image 11 = .ok (.aload_n 0, 1) := by decide +kernel
theorem dX4_image_12 : decode cX4_image 12 = .ok (.iconst 1, 1) := by decide +kernel
theorem dX4_image_13 : decode cX4_image 13 = .ok (.putfield 213, 3) := by decide +kernel
theorem dX4_image_16 : decode cX4_image 16 = .ok (.aload_n 0, 1) := by decide +kernel
theorem dX4_image_17 : decode cX4_image 17 = .ok (.getfield 10, 3) := by decide +kernel
theorem dX4_image_20 : decode cX4_image 20 = .ok (.getfield 125, 3) := by decide +kernel
theorem dX4_image_23 : decode cX4_image 23 = .ok (.ireturn, 1) := by decide +kernel
theorem dX4_restore_0 : decode cX4_restore 0 = .ok (.aload_n 0, 1) := by decide +kernel
theorem dX4_restore_1 : decode cX4_restore 1 = .ok (.getfield 213, 3) := by decide +kernel
theorem dX4_restore_4 : decode cX4_restore 4 = .ok (.ifCond .ne 10, 3) := by decide +kernel
theorem dX4_restore_7 : decode cX4_restore 7 = .ok (.aload_n 0, 1) := by decide +kernel
theorem dX4_restore_8 : decode cX4_restore 8 = .ok (.bipush (-3), 2) := by decide +kernel
theorem dX4_restore_10 : decode cX4_restore 10 = .ok (.invokevirtual 46, 3) := by decide +kernel
theorem dX4_restore_13 : decode cX4_restore 13 = .ok (.ireturn, 1) := by decide +kernel
theorem dX4_restore_14 : decode cX4_restore 14 = .ok (.aload_n 0, 1) := by decide +kernel
theorem dX4_restore_15 : decode cX4_restore 15 = .ok (.getfield 10, 3) := by decide +kernel
theorem dX4_restore_18 : decode cX4_restore 18 = .ok (.aload_n 0, 1) := by decide +kernel
theorem dX4_restore_19 : decode cX4_restore 19 = .ok (.getfield 16, 3) := by decide +kernel
theorem dX4_restore_22 : decode cX4_restore 22 = .ok (.invokevirtual 149, 3) := by decide +kernel
theorem dX4_restore_25 : decode cX4_restore 25 = .ok (.aload_n 0, 1) := by decide +kernel
theorem dX4_restore_26 : decode cX4_restore 26 = .ok (.getfield 10, 3) := by decide +kernel
theorem dX4_restore_29 : decode cX4_restore 29 = .ok (.getfield 125, 3) := by decide +kernel
theorem dX4_restore_32 : decode cX4_restore 32 = .ok (.ireturn, 1) := by decide +kernel
theorem dX4_count_0 : decode cX4_count 0 = .ok (.iload_n 1, 1) := by decide +kernel
theorem dX4_count_1 : decode cX4_count 1 = .ok (.tableswitch 146 0 16 #[83, 91, 99, 107, 115, 123, 131, 146, 146, 146, 146, 136, 136, 136, 136, 136, 136], 83) := by decide +kernel
theorem dX4_count_84 : decode cX4_count 84 = .ok (.aload_n 0, 1) := by decide +kernel
theorem dX4_count_85 : decode cX4_count 85 = .ok (.getfield 10, 3) := by decide +kernel
theorem dX4_count_88 : decode cX4_count 88 = .ok (.getfield 200, 3) := by decide +kernel
theorem dX4_count_91 : decode cX4_count 91 = .ok (.ireturn, 1) := by decide +kernel
theorem dX4_count_92 : decode cX4_count 92 = .ok (.aload_n 0, 1) := by decide +kernel
theorem dX4_count_93 : decode cX4_count 93 = .ok (.getfield 10, 3) := by decide +kernel
theorem dX4_count_96 : decode cX4_count 96 = .ok (.getfield 125, 3) := by decide +kernel
theorem dX4_count_99 : decode cX4_count 99 = .ok (.ireturn, 1) := by decide +kernel
theorem dX4_count_100 : decode cX4_count 100 = .ok (.aload_n 0, 1) := by decide +kernel
theorem dX4_count_101 : decode cX4_count 101 = .ok (.getfield 10, 3) := by decide +kernel
theorem dX4_count_104 : decode cX4_count 104 = .ok (.invokevirtual 146, 3) := by decide +kernel
theorem dX4_count_107 : decode cX4_count 107 = .ok (.ireturn, 1) := by decide +kernel
theorem dX4_count_108 : decode cX4_count 108 = .ok (.aload_n 0, 1) := by decide +kernel
theorem dX4_count_109 : decode cX4_count 109 = .ok (.getfield 10, 3) := by decide +kernel
theorem dX4_count_112 : decode cX4_count 112 = .ok (.invokevirtual 217, 3) := by decide +kernel
theorem dX4_count_115 : decode cX4_count 115 = .ok (.ireturn, 1) := by decide +kernel
theorem dX4_count_116 : decode cX4_count 116 = .ok (.aload_n 0, 1) := by decide +kernel
theorem dX4_count_117 : decode cX4_count 117 = .ok (.getfield 10, 3) := by decide +kernel
theorem dX4_count_120 : decode cX4_count 120 = .ok (.invokevirtual 220, 3) := by decide +kernel
theorem dX4_count_123 : decode cX4_count 123 = .ok (.ireturn, 1) := by decide +kernel
theorem dX4_count_124 : decode cX4_count 124 = .ok (.aload_n 0, 1) := by decide +kernel
theorem dX4_count_125 : decode cX4_count 125 = .ok (.getfield 32, 3) := by decide +kernel
theorem dX4_count_128 : decode cX4_count 128 = .ok (.getfield 223, 3) := by decide +kernel
theorem dX4_count_131 : decode cX4_count 131 = .ok (.ireturn, 1) := by decide +kernel
theorem dX4_count_132 : decode cX4_count 132 = .ok (.aload_n 0, 1) := by decide +kernel
theorem dX4_count_133 : decode cX4_count 133 = .ok (.getfield 190, 3) := by decide +kernel
theorem dX4_count_136 : decode cX4_count 136 = .ok (.ireturn, 1) := by decide +kernel
theorem dX4_count_137 : decode cX4_count 137 = .ok (.aload_n 0, 1) := by decide +kernel
theorem dX4_count_138 : decode cX4_count 138 = .ok (.getfield 43, 3) := by decide +kernel
theorem dX4_count_141 : decode cX4_count 141 = .ok (.iload_n 1, 1) := by decide +kernel
theorem dX4_count_142 : decode cX4_count 142 = .ok (.bipush 10, 2) := by decide +kernel
theorem dX4_count_144 : decode cX4_count 144 = .ok (.isub, 1) := by decide +kernel
theorem dX4_count_145 : decode cX4_count 145 = .ok (.iaload, 1) := by decide +kernel
theorem dX4_count_146 : decode cX4_count 146 = .ok (.ireturn, 1) := by decide +kernel
theorem dX4_count_147 : decode cX4_count 147 = .ok (.bipush (-9), 2) := by decide +kernel
theorem dX4_count_149 : decode cX4_count 149 = .ok (.ireturn, 1) := by decide +kernel
theorem dX4_refuse_0 : decode cX4_refuse 0 = .ok (.iload_n 1, 1) := by decide +kernel
theorem dX4_refuse_1 : decode cX4_refuse 1 = .ok (.bipush (-6), 2) := by decide +kernel
theorem dX4_refuse_3 : decode cX4_refuse 3 = .ok (.if_icmp .lt 19, 3) := by decide +kernel
theorem dX4_refuse_6 : decode cX4_refuse 6 = .ok (.iload_n 1, 1) := by decide +kernel
theorem dX4_refuse_7 : decode cX4_refuse 7 = .ok (.iconst (-1), 1) := by decide +kernel
theorem dX4_refuse_8 : decode cX4_refuse 8 = .ok (.if_icmp .gt 14, 3) := by decide +kernel
theorem dX4_refuse_11 : decode cX4_refuse 11 = .ok (.aload_n 0, 1) := by decide +kernel
theorem dX4_refuse_12 : decode cX4_refuse 12 = .ok (.getfield 43, 3) := by decide +kernel
theorem dX4_refuse_15 : decode cX4_refuse 15 = .ok (.iload_n 1, 1) := by decide +kernel
theorem dX4_refuse_16 : decode cX4_refuse 16 = .ok (.ineg, 1) := by decide +kernel
theorem dX4_refuse_17 : decode cX4_refuse 17 = .ok (.dup2, 1) := by decide +kernel
theorem dX4_refuse_18 : decode cX4_refuse 18 = .ok (.iaload, 1) := by decide +kernel
theorem dX4_refuse_19 : decode cX4_refuse 19 = .ok (.iconst 1, 1) := by decide +kernel
theorem dX4_refuse_20 : decode cX4_refuse 20 = .ok (.iadd, 1) := by decide +kernel
theorem dX4_refuse_21 : decode cX4_refuse 21 = .ok (.iastore, 1) := by decide +kernel
theorem dX4_refuse_22 : decode cX4_refuse 22 = .ok (.iload_n 1, 1) := by decide +kernel
theorem dX4_refuse_23 : decode cX4_refuse 23 = .ok (.ireturn, 1) := by decide +kernel
theorem dX4_outside_0 : decode cX4_outside 0 = .ok (.iload_n 0, 1) := by decide +kernel
theorem dX4_outside_1 : decode cX4_outside 1 = .ok (.iload_n 1, 1) := by decide +kernel
theorem dX4_outside_2 : decode cX4_outside 2 = .ok (.if_icmp .ge 8, 3) := by decide +kernel
theorem dX4_outside_5 : decode cX4_outside 5 = .ok (.bipush (-4), 2) := by decide +kernel
theorem dX4_outside_7 : decode cX4_outside 7 = .ok (.goto 14, 3) := by decide +kernel
theorem dX4_outside_10 : decode cX4_outside 10 = .ok (.iload_n 0, 1) := by decide +kernel
theorem dX4_outside_11 : decode cX4_outside 11 = .ok (.iload_n 2, 1) := by decide +kernel
theorem dX4_outside_12 : decode cX4_outside 12 = .ok (.if_icmp .le 8, 3) := by decide +kernel
theorem dX4_outside_15 : decode cX4_outside 15 = .ok (.bipush (-6), 2) := by decide +kernel
theorem dX4_outside_17 : decode cX4_outside 17 = .ok (.goto 4, 3) := by decide +kernel
theorem dX4_outside_20 : decode cX4_outside 20 = .ok (.iconst 0, 1) := by decide +kernel
theorem dX4_outside_21 : decode cX4_outside 21 = .ok (.ireturn, 1) := by decide +kernel
theorem dX4_ofOneRefusal_0 : decode cX4_ofOneRefusal 0 = .ok (.aload_n 0, 1) := by decide +kernel
theorem dX4_ofOneRefusal_1 : decode cX4_ofOneRefusal 1 = .ok (.getfield 10, 3) := by decide +kernel
theorem dX4_ofOneRefusal_4 : decode cX4_ofOneRefusal 4 = .ok (.iload_n 1, 1) := by decide +kernel
theorem dX4_ofOneRefusal_5 : decode cX4_ofOneRefusal 5 = .ok (.invokevirtual 64, 3) := by decide +kernel
theorem dX4_ofOneRefusal_8 : decode cX4_ofOneRefusal 8 = .ok (.ifCond .eq 13, 3) := by decide +kernel
theorem dX4_ofOneRefusal_11 : decode cX4_ofOneRefusal 11 = .ok (.iload_n 2, 1) := by decide +kernel
theorem dX4_ofOneRefusal_12 : decode cX4_ofOneRefusal 12 = .ok (.iload_n 3, 1) := by decide +kernel
theorem dX4_ofOneRefusal_13 : decode cX4_ofOneRefusal 13 = .ok (.iload 4, 2) := by decide +kernel
theorem dX4_ofOneRefusal_15 : decode cX4_ofOneRefusal 15 = .ok (.invokestatic 111, 3) := by decide +kernel
theorem dX4_ofOneRefusal_18 : decode cX4_ofOneRefusal 18 = .ok (.goto 4, 3) := by decide +kernel
theorem dX4_ofOneRefusal_21 : decode cX4_ofOneRefusal 21 = .ok (.iconst (-1), 1) := by decide +kernel
theorem dX4_ofOneRefusal_22 : decode cX4_ofOneRefusal 22 = .ok (.ireturn, 1) := by decide +kernel
theorem dX4_ofOneTwiceRefusal_0 : decode cX4_ofOneTwiceRefusal 0 = .ok (.aload_n 0, 1) := by decide +kernel
theorem dX4_ofOneTwiceRefusal_1 : decode cX4_ofOneTwiceRefusal 1 = .ok (.getfield 10, 3) := by decide +kernel
theorem dX4_ofOneTwiceRefusal_4 : decode cX4_ofOneTwiceRefusal 4 = .ok (.iload_n 1, 1) := by decide +kernel
theorem dX4_ofOneTwiceRefusal_5 : decode cX4_ofOneTwiceRefusal 5 = .ok (.invokevirtual 64, 3) := by decide +kernel
theorem dX4_ofOneTwiceRefusal_8 : decode cX4_ofOneTwiceRefusal 8 = .ok (.ifCond .ne 5, 3) := by decide +kernel
theorem dX4_ofOneTwiceRefusal_11 : decode cX4_ofOneTwiceRefusal 11 = .ok (.iconst (-1), 1) := by decide +kernel
theorem dX4_ofOneTwiceRefusal_12 : decode cX4_ofOneTwiceRefusal 12 = .ok (.ireturn, 1) := by decide +kernel
theorem dX4_ofOneTwiceRefusal_13 : decode cX4_ofOneTwiceRefusal 13 = .ok (.iload_n 2, 1) := by decide +kernel
theorem dX4_ofOneTwiceRefusal_14 : decode cX4_ofOneTwiceRefusal 14 = .ok (.bipush (-4), 2) := by decide +kernel
theorem dX4_ofOneTwiceRefusal_16 : decode cX4_ofOneTwiceRefusal 16 = .ok (.if_icmp .eq 9, 3) := by decide +kernel
theorem dX4_ofOneTwiceRefusal_19 : decode cX4_ofOneTwiceRefusal 19 = .ok (.iload_n 3, 1) := by decide +kernel
theorem dX4_ofOneTwiceRefusal_20 : decode cX4_ofOneTwiceRefusal 20 = .ok (.bipush (-4), 2) := by decide +kernel
theorem dX4_ofOneTwiceRefusal_22 : decode cX4_ofOneTwiceRefusal 22 = .ok (.if_icmp .ne 6, 3) := by decide +kernel
theorem dX4_ofOneTwiceRefusal_25 : decode cX4_ofOneTwiceRefusal 25 = .ok (.bipush (-4), 2) := by decide +kernel
theorem dX4_ofOneTwiceRefusal_27 : decode cX4_ofOneTwiceRefusal 27 = .ok (.ireturn, 1) := by decide +kernel
theorem dX4_ofOneTwiceRefusal_28 : decode cX4_ofOneTwiceRefusal 28 = .ok (.iload_n 2, 1) := by decide +kernel
theorem dX4_ofOneTwiceRefusal_29 : decode cX4_ofOneTwiceRefusal 29 = .ok (.ifCond .eq 7, 3) := by decide +kernel
theorem dX4_ofOneTwiceRefusal_32 : decode cX4_ofOneTwiceRefusal 32 = .ok (.iload_n 2, 1) := by decide +kernel
theorem dX4_ofOneTwiceRefusal_33 : decode cX4_ofOneTwiceRefusal 33 = .ok (.goto 4, 3) := by decide +kernel
theorem dX4_ofOneTwiceRefusal_36 : decode cX4_ofOneTwiceRefusal 36 = .ok (.iload_n 3, 1) := by decide +kernel
theorem dX4_ofOneTwiceRefusal_37 : decode cX4_ofOneTwiceRefusal 37 = .ok (.ireturn, 1) := by decide +kernel
theorem dX4_putRefusal_0 : decode cX4_putRefusal 0 = .ok (.aload_n 0, 1) := by decide +kernel
theorem dX4_putRefusal_1 : decode cX4_putRefusal 1 = .ok (.getfield 10, 3) := by decide +kernel
theorem dX4_putRefusal_4 : decode cX4_putRefusal 4 = .ok (.iload_n 1, 1) := by decide +kernel
theorem dX4_putRefusal_5 : decode cX4_putRefusal 5 = .ok (.invokevirtual 64, 3) := by decide +kernel
theorem dX4_putRefusal_8 : decode cX4_putRefusal 8 = .ok (.ifCond .ne 5, 3) := by decide +kernel
theorem dX4_putRefusal_11 : decode cX4_putRefusal 11 = .ok (.iconst (-1), 1) := by decide +kernel
theorem dX4_putRefusal_12 : decode cX4_putRefusal 12 = .ok (.ireturn, 1) := by decide +kernel
theorem dX4_putRefusal_13 : decode cX4_putRefusal 13 = .ok (.iload_n 2, 1) := by decide +kernel
theorem dX4_putRefusal_14 : decode cX4_putRefusal 14 = .ok (.ifCond .lt 8, 3) := by decide +kernel
theorem dX4_putRefusal_17 : decode cX4_putRefusal 17 = .ok (.iload_n 2, 1) := by decide +kernel
theorem dX4_putRefusal_18 : decode cX4_putRefusal 18 = .ok (.iconst 2, 1) := by decide +kernel
theorem dX4_putRefusal_19 : decode cX4_putRefusal 19 = .ok (.if_icmp .le 6, 3) := by decide +kernel
theorem dX4_putRefusal_22 : decode cX4_putRefusal 22 = .ok (.bipush (-2), 2) := by decide +kernel
theorem dX4_putRefusal_24 : decode cX4_putRefusal 24 = .ok (.ireturn, 1) := by decide +kernel
theorem dX4_putRefusal_25 : decode cX4_putRefusal 25 = .ok (.iload_n 2, 1) := by decide +kernel
theorem dX4_putRefusal_26 : decode cX4_putRefusal 26 = .ok (.iconst 2, 1) := by decide +kernel
theorem dX4_putRefusal_27 : decode cX4_putRefusal 27 = .ok (.if_icmp .ne 26, 3) := by decide +kernel
theorem dX4_putRefusal_30 : decode cX4_putRefusal 30 = .ok (.iload_n 3, 1) := by decide +kernel
theorem dX4_putRefusal_31 : decode cX4_putRefusal 31 = .ok (.bipush 9, 2) := by decide +kernel
theorem dX4_putRefusal_33 : decode cX4_putRefusal 33 = .ok (.if_icmp .eq 14, 3) := by decide +kernel
theorem dX4_putRefusal_36 : decode cX4_putRefusal 36 = .ok (.aload_n 0, 1) := by decide +kernel
theorem dX4_putRefusal_37 : decode cX4_putRefusal 37 = .ok (.getfield 10, 3) := by decide +kernel
theorem dX4_putRefusal_40 : decode cX4_putRefusal 40 = .ok (.iload_n 3, 1) := by decide +kernel
theorem dX4_putRefusal_41 : decode cX4_putRefusal 41 = .ok (.invokevirtual 64, 3) := by decide +kernel
theorem dX4_putRefusal_44 : decode cX4_putRefusal 44 = .ok (.ifCond .eq 7, 3) := by decide +kernel
theorem dX4_putRefusal_47 : decode cX4_putRefusal 47 = .ok (.iconst 0, 1) := by decide +kernel
theorem dX4_putRefusal_48 : decode cX4_putRefusal 48 = .ok (.goto 4, 3) := by decide +kernel
theorem dX4_putRefusal_51 : decode cX4_putRefusal 51 = .ok (.iconst (-1), 1) := by decide +kernel
theorem dX4_putRefusal_52 : decode cX4_putRefusal 52 = .ok (.ireturn, 1) := by decide +kernel
theorem dX4_putRefusal_53 : decode cX4_putRefusal 53 = .ok (.iload_n 3, 1) := by decide +kernel
theorem dX4_putRefusal_54 : decode cX4_putRefusal 54 = .ok (.iconst 0, 1) := by decide +kernel
theorem dX4_putRefusal_55 : decode cX4_putRefusal 55 = .ok (.iload_n 2, 1) := by decide +kernel
theorem dX4_putRefusal_56 : decode cX4_putRefusal 56 = .ok (.ifCond .ne 9, 3) := by decide +kernel
theorem dX4_putRefusal_59 : decode cX4_putRefusal 59 = .ok (.sipush 9999, 3) := by decide +kernel
theorem dX4_putRefusal_62 : decode cX4_putRefusal 62 = .ok (.goto 5, 3) := by decide +kernel
theorem dX4_putRefusal_65 : decode cX4_putRefusal 65 = .ok (.bipush 99, 2) := by decide +kernel
theorem dX4_putRefusal_67 : decode cX4_putRefusal 67 = .ok (.invokestatic 111, 3) := by decide +kernel
theorem dX4_putRefusal_70 : decode cX4_putRefusal 70 = .ok (.ireturn, 1) := by decide +kernel
theorem dX4_think_0 : decode cX4_think 0 = .ok (.aload_n 0, 1) := by decide +kernel
theorem dX4_think_1 : decode cX4_think 1 = .ok (.getfield 19, 3) := by decide +kernel
theorem dX4_think_4 : decode cX4_think 4 = .ok (.aload_n 0, 1) := by decide +kernel
theorem dX4_think_5 : decode cX4_think 5 = .ok (.getfield 10, 3) := by decide +kernel
theorem dX4_think_8 : decode cX4_think 8 = .ok (.invokevirtual 149, 3) := by decide +kernel
theorem dX4_think_11 : decode cX4_think 11 = .ok (.aload_n 0, 1) := by decide +kernel
theorem dX4_think_12 : decode cX4_think 12 = .ok (.getfield 19, 3) := by decide +kernel
theorem dX4_think_15 : decode cX4_think 15 = .ok (.iload_n 1, 1) := by decide +kernel
theorem dX4_think_16 : decode cX4_think 16 = .ok (.invokevirtual 187, 3) := by decide +kernel
theorem dX4_think_19 : decode cX4_think 19 = .ok (.return_, 1) := by decide +kernel
theorem dX4_quietDayInMind_0 : decode cX4_quietDayInMind 0 = .ok (.aload_n 0, 1) := by decide +kernel
theorem dX4_quietDayInMind_1 : decode cX4_quietDayInMind 1 = .ok (.getfield 19, 3) := by decide +kernel
theorem dX4_quietDayInMind_4 : decode cX4_quietDayInMind 4 = .ok (.getfield 77, 3) := by decide +kernel
theorem dX4_quietDayInMind_7 : decode cX4_quietDayInMind 7 = .ok (.iconst 0, 1) := by decide +kernel
theorem dX4_quietDayInMind_8 : decode cX4_quietDayInMind 8 = .ok (.aload_n 0, 1) := by decide +kernel
theorem dX4_quietDayInMind_9 : decode cX4_quietDayInMind 9 = .ok (.getfield 36, 3) := by decide +kernel
theorem dX4_quietDayInMind_12 : decode cX4_quietDayInMind 12 = .ok (.iconst 0, 1) := by decide +kernel
theorem dX4_quietDayInMind_13 : decode cX4_quietDayInMind 13 = .ok (.bipush 6, 2) := by decide +kernel
theorem dX4_quietDayInMind_15 : decode cX4_quietDayInMind 15 = .ok (.invokestatic 226, 3) := by decide +kernel
theorem dX4_quietDayInMind_18 : decode cX4_quietDayInMind 18 = .ok (.aload_n 0, 1) := by decide +kernel
theorem dX4_quietDayInMind_19 : decode cX4_quietDayInMind 19 = .ok (.getfield 19, 3) := by decide +kernel
theorem dX4_quietDayInMind_22 : decode cX4_quietDayInMind 22 = .ok (.invokevirtual 132, 3) := by decide +kernel
theorem dX4_quietDayInMind_25 : decode cX4_quietDayInMind 25 = .ok (.pop, 1) := by decide +kernel
theorem dX4_quietDayInMind_26 : decode cX4_quietDayInMind 26 = .ok (.iconst 0, 1) := by decide +kernel
theorem dX4_quietDayInMind_27 : decode cX4_quietDayInMind 27 = .ok (.istore_n 1, 1) := by decide +kernel
theorem dX4_quietDayInMind_28 : decode cX4_quietDayInMind 28 = .ok (.iload_n 1, 1) := by decide +kernel
theorem dX4_quietDayInMind_29 : decode cX4_quietDayInMind 29 = .ok (.aload_n 0, 1) := by decide +kernel
theorem dX4_quietDayInMind_30 : decode cX4_quietDayInMind 30 = .ok (.getfield 19, 3) := by decide +kernel
theorem dX4_quietDayInMind_33 : decode cX4_quietDayInMind 33 = .ok (.getfield 200, 3) := by decide +kernel
theorem dX4_quietDayInMind_36 : decode cX4_quietDayInMind 36 = .ok (.if_icmp .ge 29, 3) := by decide +kernel
theorem dX4_quietDayInMind_39 : decode cX4_quietDayInMind 39 = .ok (.aload_n 0, 1) := by decide +kernel
theorem dX4_quietDayInMind_40 : decode cX4_quietDayInMind 40 = .ok (.getfield 19, 3) := by decide +kernel
theorem dX4_quietDayInMind_43 : decode cX4_quietDayInMind 43 = .ok (.getfield 77, 3) := by decide +kernel
theorem dX4_quietDayInMind_46 : decode cX4_quietDayInMind 46 = .ok (.iload_n 1, 1) := by decide +kernel
theorem dX4_quietDayInMind_47 : decode cX4_quietDayInMind 47 = .ok (.iaload, 1) := by decide +kernel
theorem dX4_quietDayInMind_48 : decode cX4_quietDayInMind 48 = .ok (.aload_n 0, 1) := by decide +kernel
theorem dX4_quietDayInMind_49 : decode cX4_quietDayInMind 49 = .ok (.getfield 36, 3) := by decide +kernel
theorem dX4_quietDayInMind_52 : decode cX4_quietDayInMind 52 = .ok (.iload_n 1, 1) := by decide +kernel
theorem dX4_quietDayInMind_53 : decode cX4_quietDayInMind 53 = .ok (.iaload, 1) := by decide +kernel
theorem dX4_quietDayInMind_54 : decode cX4_quietDayInMind 54 = .ok (.if_icmp .eq 5, 3) := by decide +kernel
theorem dX4_quietDayInMind_57 : decode cX4_quietDayInMind 57 = .ok (.iconst 0, 1) := by decide +kernel
theorem dX4_quietDayInMind_58 : decode cX4_quietDayInMind 58 = .ok (.ireturn, 1) := by decide +kernel
theorem dX4_quietDayInMind_59 : decode cX4_quietDayInMind 59 = .ok (.iinc 1 1, 3) := by decide +kernel
theorem dX4_quietDayInMind_62 : decode cX4_quietDayInMind 62 = .ok (.goto (-34), 3) := by decide +kernel
theorem dX4_quietDayInMind_65 : decode cX4_quietDayInMind 65 = .ok (.iconst 1, 1) := by decide +kernel
theorem dX4_quietDayInMind_66 : decode cX4_quietDayInMind 66 = .ok (.ireturn, 1) := by decide +kernel
theorem dX4_hasByLaw_0 : decode cX4_hasByLaw 0 = .ok (.aload_n 0, 1) := by decide +kernel
theorem dX4_hasByLaw_1 : decode cX4_hasByLaw 1 = .ok (.getfield 19, 3) := by decide +kernel
theorem dX4_hasByLaw_4 : decode cX4_hasByLaw 4 = .ok (.aload_n 0, 1) := by decide +kernel
theorem dX4_hasByLaw_5 : decode cX4_hasByLaw 5 = .ok (.getfield 10, 3) := by decide +kernel
theorem dX4_hasByLaw_8 : decode cX4_hasByLaw 8 = .ok (.invokevirtual 149, 3) := by decide +kernel
theorem dX4_hasByLaw_11 : decode cX4_hasByLaw 11 = .ok (.aload_n 0, 1) := by decide +kernel
theorem dX4_hasByLaw_12 : decode cX4_hasByLaw 12 = .ok (.getfield 19, 3) := by decide +kernel
theorem dX4_hasByLaw_15 : decode cX4_hasByLaw 15 = .ok (.iconst 0, 1) := by decide +kernel
theorem dX4_hasByLaw_16 : decode cX4_hasByLaw 16 = .ok (.iload_n 1, 1) := by decide +kernel
theorem dX4_hasByLaw_17 : decode cX4_hasByLaw 17 = .ok (.invokevirtual 114, 3) := by decide +kernel
theorem dX4_hasByLaw_20 : decode cX4_hasByLaw 20 = .ok (.pop, 1) := by decide +kernel
theorem dX4_hasByLaw_21 : decode cX4_hasByLaw 21 = .ok (.aload_n 0, 1) := by decide +kernel
theorem dX4_hasByLaw_22 : decode cX4_hasByLaw 22 = .ok (.getfield 19, 3) := by decide +kernel
theorem dX4_hasByLaw_25 : decode cX4_hasByLaw 25 = .ok (.iload_n 3, 1) := by decide +kernel
theorem dX4_hasByLaw_26 : decode cX4_hasByLaw 26 = .ok (.invokevirtual 187, 3) := by decide +kernel
theorem dX4_hasByLaw_29 : decode cX4_hasByLaw 29 = .ok (.aload_n 0, 1) := by decide +kernel
theorem dX4_hasByLaw_30 : decode cX4_hasByLaw 30 = .ok (.getfield 19, 3) := by decide +kernel
theorem dX4_hasByLaw_33 : decode cX4_hasByLaw 33 = .ok (.getfield 77, 3) := by decide +kernel
theorem dX4_hasByLaw_36 : decode cX4_hasByLaw 36 = .ok (.iload_n 2, 1) := by decide +kernel
theorem dX4_hasByLaw_37 : decode cX4_hasByLaw 37 = .ok (.iaload, 1) := by decide +kernel
theorem dX4_hasByLaw_38 : decode cX4_hasByLaw 38 = .ok (.ireturn, 1) := by decide +kernel
theorem dX4_readLand_0 : decode cX4_readLand 0 = .ok (.aload_n 0, 1) := by decide +kernel
theorem dX4_readLand_1 : decode cX4_readLand 1 = .ok (.getfield 32, 3) := by decide +kernel
theorem dX4_readLand_4 : decode cX4_readLand 4 = .ok (.invokevirtual 232, 3) := by decide +kernel
theorem dX4_readLand_7 : decode cX4_readLand 7 = .ok (.istore_n 1, 1) := by decide +kernel
theorem dX4_readLand_8 : decode cX4_readLand 8 = .ok (.iload_n 1, 1) := by decide +kernel
theorem dX4_readLand_9 : decode cX4_readLand 9 = .ok (.ifCond .lt 9, 3) := by decide +kernel
theorem dX4_readLand_12 : decode cX4_readLand 12 = .ok (.sipush (-1000), 3) := by decide +kernel
theorem dX4_readLand_15 : decode cX4_readLand 15 = .ok (.iload_n 1, 1) := by decide +kernel
theorem dX4_readLand_16 : decode cX4_readLand 16 = .ok (.isub, 1) := by decide +kernel
theorem dX4_readLand_17 : decode cX4_readLand 17 = .ok (.ireturn, 1) := by decide +kernel
theorem dX4_readLand_18 : decode cX4_readLand 18 = .ok (.aload_n 0, 1) := by decide +kernel
theorem dX4_readLand_19 : decode cX4_readLand 19 = .ok (.getfield 19, 3) := by decide +kernel
theorem dX4_readLand_22 : decode cX4_readLand 22 = .ok (.aload_n 0, 1) := by decide +kernel
theorem dX4_readLand_23 : decode cX4_readLand 23 = .ok (.getfield 10, 3) := by decide +kernel
theorem dX4_readLand_26 : decode cX4_readLand 26 = .ok (.invokevirtual 149, 3) := by decide +kernel
theorem dX4_readLand_29 : decode cX4_readLand 29 = .ok (.iconst 0, 1) := by decide +kernel
theorem dX4_readLand_30 : decode cX4_readLand 30 = .ok (.istore_n 2, 1) := by decide +kernel
theorem dX4_readLand_31 : decode cX4_readLand 31 = .ok (.iconst 0, 1) := by decide +kernel
theorem dX4_readLand_32 : decode cX4_readLand 32 = .ok (.istore_n 3, 1) := by decide +kernel
theorem dX4_readLand_33 : decode cX4_readLand 33 = .ok (.iconst 0, 1) := by decide +kernel
theorem dX4_readLand_34 : decode cX4_readLand 34 = .ok (.istore 4, 2) := by decide +kernel
theorem dX4_readLand_36 : decode cX4_readLand 36 = .ok (.iload 4, 2) := by decide +kernel
theorem dX4_readLand_38 : decode cX4_readLand 38 = .ok (.bipush 64, 2) := by decide +kernel
theorem dX4_readLand_40 : decode cX4_readLand 40 = .ok (.if_icmp .ge 50, 3) := by decide +kernel
theorem dX4_readLand_43 : decode cX4_readLand 43 = .ok (.iload_n 3, 1) := by decide +kernel
theorem dX4_readLand_44 : decode cX4_readLand 44 = .ok (.aload_n 0, 1) := by decide +kernel
theorem dX4_readLand_45 : decode cX4_readLand 45 = .ok (.getfield 32, 3) := by decide +kernel
theorem dX4_readLand_48 : decode cX4_readLand 48 = .ok (.getfield 223, 3) := by decide +kernel
theorem dX4_readLand_51 : decode cX4_readLand 51 = .ok (.if_icmp .ge 39, 3) := by decide +kernel
theorem dX4_readLand_54 : decode cX4_readLand 54 = .ok (.aload_n 0, 1) := by decide +kernel
theorem dX4_readLand_55 : decode cX4_readLand 55 = .ok (.iload_n 3, 1) := by decide +kernel
theorem dX4_readLand_56 : decode cX4_readLand 56 = .ok (.invokevirtual 235, 3) := by decide +kernel
theorem dX4_readLand_59 : decode cX4_readLand 59 = .ok (.ifCond .ne 9, 3) := by decide +kernel
theorem dX4_readLand_62 : decode cX4_readLand 62 = .ok (.sipush (-2000), 3) := by decide +kernel
theorem dX4_readLand_65 : decode cX4_readLand 65 = .ok (.iload_n 3, 1) := by decide +kernel
theorem dX4_readLand_66 : decode cX4_readLand 66 = .ok (.isub, 1) := by decide +kernel
theorem dX4_readLand_67 : decode cX4_readLand 67 = .ok (.ireturn, 1) := by decide +kernel
theorem dX4_readLand_68 : decode cX4_readLand 68 = .ok (.iinc 2 1, 3) := by decide +kernel
theorem dX4_readLand_71 : decode cX4_readLand 71 = .ok (.aload_n 0, 1) := by decide +kernel
theorem dX4_readLand_72 : decode cX4_readLand 72 = .ok (.getfield 32, 3) := by decide +kernel
theorem dX4_readLand_75 : decode cX4_readLand 75 = .ok (.bipush 59, 2) := by decide +kernel
theorem dX4_readLand_77 : decode cX4_readLand 77 = .ok (.iload_n 3, 1) := by decide +kernel
theorem dX4_readLand_78 : decode cX4_readLand 78 = .ok (.invokevirtual 238, 3) := by decide +kernel
theorem dX4_readLand_81 : decode cX4_readLand 81 = .ok (.iconst 1, 1) := by decide +kernel
theorem dX4_readLand_82 : decode cX4_readLand 82 = .ok (.iadd, 1) := by decide +kernel
theorem dX4_readLand_83 : decode cX4_readLand 83 = .ok (.istore_n 3, 1) := by decide +kernel
theorem dX4_readLand_84 : decode cX4_readLand 84 = .ok (.iinc 4 1, 3) := by decide +kernel
theorem dX4_readLand_87 : decode cX4_readLand 87 = .ok (.goto (-51), 3) := by decide +kernel
theorem dX4_readLand_90 : decode cX4_readLand 90 = .ok (.aload_n 0, 1) := by decide +kernel
theorem dX4_readLand_91 : decode cX4_readLand 91 = .ok (.getfield 10, 3) := by decide +kernel
theorem dX4_readLand_94 : decode cX4_readLand 94 = .ok (.aload_n 0, 1) := by decide +kernel
theorem dX4_readLand_95 : decode cX4_readLand 95 = .ok (.getfield 19, 3) := by decide +kernel
theorem dX4_readLand_98 : decode cX4_readLand 98 = .ok (.invokevirtual 149, 3) := by decide +kernel
theorem dX4_readLand_101 : decode cX4_readLand 101 = .ok (.iload_n 2, 1) := by decide +kernel
theorem dX4_readLand_102 : decode cX4_readLand 102 = .ok (.ireturn, 1) := by decide +kernel
theorem dX4_comesInMind_0 : decode cX4_comesInMind 0 = .ok (.aload_n 0, 1) := by decide +kernel
theorem dX4_comesInMind_1 : decode cX4_comesInMind 1 = .ok (.getfield 32, 3) := by decide +kernel
theorem dX4_comesInMind_4 : decode cX4_comesInMind 4 = .ok (.iload_n 1, 1) := by decide +kernel
theorem dX4_comesInMind_5 : decode cX4_comesInMind 5 = .ok (.iconst 1, 1) := by decide +kernel
theorem dX4_comesInMind_6 : decode cX4_comesInMind 6 = .ok (.iadd, 1) := by decide +kernel
theorem dX4_comesInMind_7 : decode cX4_comesInMind 7 = .ok (.invokevirtual 241, 3) := by decide +kernel
theorem dX4_comesInMind_10 : decode cX4_comesInMind 10 = .ok (.istore_n 2, 1) := by decide +kernel
theorem dX4_comesInMind_11 : decode cX4_comesInMind 11 = .ok (.aload_n 0, 1) := by decide +kernel
theorem dX4_comesInMind_12 : decode cX4_comesInMind 12 = .ok (.getfield 32, 3) := by decide +kernel
theorem dX4_comesInMind_15 : decode cX4_comesInMind 15 = .ok (.iload_n 1, 1) := by decide +kernel
theorem dX4_comesInMind_16 : decode cX4_comesInMind 16 = .ok (.iconst 2, 1) := by decide +kernel
theorem dX4_comesInMind_17 : decode cX4_comesInMind 17 = .ok (.iadd, 1) := by decide +kernel
theorem dX4_comesInMind_18 : decode cX4_comesInMind 18 = .ok (.invokevirtual 241, 3) := by decide +kernel
theorem dX4_comesInMind_21 : decode cX4_comesInMind 21 = .ok (.istore_n 3, 1) := by decide +kernel
theorem dX4_comesInMind_22 : decode cX4_comesInMind 22 = .ok (.aload_n 0, 1) := by decide +kernel
theorem dX4_comesInMind_23 : decode cX4_comesInMind 23 = .ok (.getfield 32, 3) := by decide +kernel
theorem dX4_comesInMind_26 : decode cX4_comesInMind 26 = .ok (.iload_n 1, 1) := by decide +kernel
theorem dX4_comesInMind_27 : decode cX4_comesInMind 27 = .ok (.iconst 3, 1) := by decide +kernel
theorem dX4_comesInMind_28 : decode cX4_comesInMind 28 = .ok (.iadd, 1) := by decide +kernel
theorem dX4_comesInMind_29 : decode cX4_comesInMind 29 = .ok (.invokevirtual 241, 3) := by decide +kernel
theorem dX4_comesInMind_32 : decode cX4_comesInMind 32 = .ok (.istore 4, 2) := by decide +kernel
theorem dX4_comesInMind_34 : decode cX4_comesInMind 34 = .ok (.aload_n 0, 1) := by decide +kernel
theorem dX4_comesInMind_35 : decode cX4_comesInMind 35 = .ok (.getfield 32, 3) := by decide +kernel
theorem dX4_comesInMind_38 : decode cX4_comesInMind 38 = .ok (.bipush 108, 2) := by decide +kernel
theorem dX4_comesInMind_40 : decode cX4_comesInMind 40 = .ok (.iload_n 1, 1) := by decide +kernel
theorem dX4_comesInMind_41 : decode cX4_comesInMind 41 = .ok (.invokevirtual 244, 3) := by decide +kernel
theorem dX4_comesInMind_44 : decode cX4_comesInMind 44 = .ok (.ifCond .eq 15, 3) := by decide +kernel
theorem dX4_comesInMind_47 : decode cX4_comesInMind 47 = .ok (.aload_n 0, 1) := by decide +kernel
theorem dX4_comesInMind_48 : decode cX4_comesInMind 48 = .ok (.getfield 19, 3) := by decide +kernel
theorem dX4_comesInMind_51 : decode cX4_comesInMind 51 = .ok (.iload_n 2, 1) := by decide +kernel
theorem dX4_comesInMind_52 : decode cX4_comesInMind 52 = .ok (.iload_n 3, 1) := by decide +kernel
theorem dX4_comesInMind_53 : decode cX4_comesInMind 53 = .ok (.iload 4, 2) := by decide +kernel
theorem dX4_comesInMind_55 : decode cX4_comesInMind 55 = .ok (.invokevirtual 248, 3) := by decide +kernel
theorem dX4_comesInMind_58 : decode cX4_comesInMind 58 = .ok (.ireturn, 1) := by decide +kernel
theorem dX4_comesInMind_59 : decode cX4_comesInMind 59 = .ok (.aload_n 0, 1) := by decide +kernel
theorem dX4_comesInMind_60 : decode cX4_comesInMind 60 = .ok (.getfield 32, 3) := by decide +kernel
theorem dX4_comesInMind_63 : decode cX4_comesInMind 63 = .ok (.iload_n 1, 1) := by decide +kernel
theorem dX4_comesInMind_64 : decode cX4_comesInMind 64 = .ok (.iconst 4, 1) := by decide +kernel
theorem dX4_comesInMind_65 : decode cX4_comesInMind 65 = .ok (.iadd, 1) := by decide +kernel
theorem dX4_comesInMind_66 : decode cX4_comesInMind 66 = .ok (.invokevirtual 252, 3) := by decide +kernel
theorem dX4_comesInMind_69 : decode cX4_comesInMind 69 = .ok (.istore 5, 2) := by decide +kernel
theorem dX4_comesInMind_71 : decode cX4_comesInMind 71 = .ok (.aload_n 0, 1) := by decide +kernel
theorem dX4_comesInMind_72 : decode cX4_comesInMind 72 = .ok (.getfield 32, 3) := by decide +kernel
theorem dX4_comesInMind_75 : decode cX4_comesInMind 75 = .ok (.aload_n 0, 1) := by decide +kernel
theorem dX4_comesInMind_76 : decode cX4_comesInMind 76 = .ok (.getfield 32, 3) := by decide +kernel
theorem dX4_comesInMind_79 : decode cX4_comesInMind 79 = .ok (.bipush 44, 2) := by decide +kernel
theorem dX4_comesInMind_81 : decode cX4_comesInMind 81 = .ok (.iload_n 1, 1) := by decide +kernel
theorem dX4_comesInMind_82 : decode cX4_comesInMind 82 = .ok (.invokevirtual 238, 3) := by decide +kernel
theorem dX4_comesInMind_85 : decode cX4_comesInMind 85 = .ok (.iconst 1, 1) := by decide +kernel
theorem dX4_comesInMind_86 : decode cX4_comesInMind 86 = .ok (.iadd, 1) := by decide +kernel
theorem dX4_comesInMind_87 : decode cX4_comesInMind 87 = .ok (.invokevirtual 252, 3) := by decide +kernel
theorem dX4_comesInMind_90 : decode cX4_comesInMind 90 = .ok (.istore 6, 2) := by decide +kernel
theorem dX4_comesInMind_92 : decode cX4_comesInMind 92 = .ok (.aload_n 0, 1) := by decide +kernel
theorem dX4_comesInMind_93 : decode cX4_comesInMind 93 = .ok (.getfield 19, 3) := by decide +kernel
theorem dX4_comesInMind_96 : decode cX4_comesInMind 96 = .ok (.iload_n 2, 1) := by decide +kernel
theorem dX4_comesInMind_97 : decode cX4_comesInMind 97 = .ok (.iload_n 3, 1) := by decide +kernel
theorem dX4_comesInMind_98 : decode cX4_comesInMind 98 = .ok (.iload 4, 2) := by decide +kernel
theorem dX4_comesInMind_100 : decode cX4_comesInMind 100 = .ok (.iload 5, 2) := by decide +kernel
theorem dX4_comesInMind_102 : decode cX4_comesInMind 102 = .ok (.iload 6, 2) := by decide +kernel
theorem dX4_comesInMind_104 : decode cX4_comesInMind 104 = .ok (.invokevirtual 255, 3) := by decide +kernel
theorem dX4_comesInMind_107 : decode cX4_comesInMind 107 = .ok (.ireturn, 1) := by decide +kernel
theorem dX4_lookAtBook_0 : decode cX4_lookAtBook 0 = .ok (.aload_n 0, 1) := by decide +kernel
theorem dX4_lookAtBook_1 : decode cX4_lookAtBook 1 = .ok (.getfield 19, 3) := by decide +kernel
theorem dX4_lookAtBook_4 : decode cX4_lookAtBook 4 = .ok (.aload_n 0, 1) := by decide +kernel
theorem dX4_lookAtBook_5 : decode cX4_lookAtBook 5 = .ok (.getfield 10, 3) := by decide +kernel
theorem dX4_lookAtBook_8 : decode cX4_lookAtBook 8 = .ok (.invokevirtual 149, 3) := by decide +kernel
theorem dX4_lookAtBook_11 : decode cX4_lookAtBook 11 = .ok (.bipush (-9), 2) := by decide +kernel
theorem dX4_lookAtBook_13 : decode cX4_lookAtBook 13 = .ok (.istore_n 3, 1) := by decide +kernel
theorem dX4_lookAtBook_14 : decode cX4_lookAtBook 14 = .ok (.iconst 0, 1) := by decide +kernel
theorem dX4_lookAtBook_15 : decode cX4_lookAtBook 15 = .ok (.istore 4, 2) := by decide +kernel
theorem dX4_lookAtBook_17 : decode cX4_lookAtBook 17 = .ok (.iload 4, 2) := by decide +kernel
theorem dX4_lookAtBook_19 : decode cX4_lookAtBook 19 = .ok (.aload_n 0, 1) := by decide +kernel
theorem dX4_lookAtBook_20 : decode cX4_lookAtBook 20 = .ok (.getfield 190, 3) := by decide +kernel
theorem dX4_lookAtBook_23 : decode cX4_lookAtBook 23 = .ok (.if_icmp .ge 65, 3) := by decide +kernel
theorem dX4_lookAtBook_26 : decode cX4_lookAtBook 26 = .ok (.iload_n 3, 1) := by decide +kernel
theorem dX4_lookAtBook_27 : decode cX4_lookAtBook 27 = .ok (.bipush (-9), 2) := by decide +kernel
theorem dX4_lookAtBook_29 : decode cX4_lookAtBook 29 = .ok (.if_icmp .ne 59, 3) := by decide +kernel
theorem dX4_lookAtBook_32 : decode cX4_lookAtBook 32 = .ok (.aload_n 0, 1) := by decide +kernel
theorem dX4_lookAtBook_33 : decode cX4_lookAtBook 33 = .ok (.getfield 19, 3) := by decide +kernel
theorem dX4_lookAtBook_36 : decode cX4_lookAtBook 36 = .ok (.invokevirtual 132, 3) := by decide +kernel
theorem dX4_lookAtBook_39 : decode cX4_lookAtBook 39 = .ok (.pop, 1) := by decide +kernel
theorem dX4_lookAtBook_40 : decode cX4_lookAtBook 40 = .ok (.aload_n 0, 1) := by decide +kernel
theorem dX4_lookAtBook_41 : decode cX4_lookAtBook 41 = .ok (.getfield 19, 3) := by decide +kernel
theorem dX4_lookAtBook_44 : decode cX4_lookAtBook 44 = .ok (.getfield 77, 3) := by decide +kernel
theorem dX4_lookAtBook_47 : decode cX4_lookAtBook 47 = .ok (.iload_n 1, 1) := by decide +kernel
theorem dX4_lookAtBook_48 : decode cX4_lookAtBook 48 = .ok (.iaload, 1) := by decide +kernel
theorem dX4_lookAtBook_49 : decode cX4_lookAtBook 49 = .ok (.istore 5, 2) := by decide +kernel
theorem dX4_lookAtBook_51 : decode cX4_lookAtBook 51 = .ok (.aload_n 0, 1) := by decide +kernel
theorem dX4_lookAtBook_52 : decode cX4_lookAtBook 52 = .ok (.getfield 40, 3) := by decide +kernel
theorem dX4_lookAtBook_55 : decode cX4_lookAtBook 55 = .ok (.iload 4, 2) := by decide +kernel
theorem dX4_lookAtBook_57 : decode cX4_lookAtBook 57 = .ok (.iaload, 1) := by decide +kernel
theorem dX4_lookAtBook_58 : decode cX4_lookAtBook 58 = .ok (.iload 5, 2) := by decide +kernel
theorem dX4_lookAtBook_60 : decode cX4_lookAtBook 60 = .ok (.if_icmp .gt 19, 3) := by decide +kernel
theorem dX4_lookAtBook_63 : decode cX4_lookAtBook 63 = .ok (.iload_n 2, 1) := by decide +kernel
theorem dX4_lookAtBook_64 : decode cX4_lookAtBook 64 = .ok (.ifCond .eq 18, 3) := by decide +kernel
theorem dX4_lookAtBook_67 : decode cX4_lookAtBook 67 = .ok (.aload_n 0, 1) := by decide +kernel
theorem dX4_lookAtBook_68 : decode cX4_lookAtBook 68 = .ok (.getfield 40, 3) := by decide +kernel
theorem dX4_lookAtBook_71 : decode cX4_lookAtBook 71 = .ok (.iload 4, 2) := by decide +kernel
theorem dX4_lookAtBook_73 : decode cX4_lookAtBook 73 = .ok (.iaload, 1) := by decide +kernel
theorem dX4_lookAtBook_74 : decode cX4_lookAtBook 74 = .ok (.iload 5, 2) := by decide +kernel
theorem dX4_lookAtBook_76 : decode cX4_lookAtBook 76 = .ok (.if_icmp .eq 6, 3) := by decide +kernel
theorem dX4_lookAtBook_79 : decode cX4_lookAtBook 79 = .ok (.iload 4, 2) := by decide +kernel
theorem dX4_lookAtBook_81 : decode cX4_lookAtBook 81 = .ok (.istore_n 3, 1) := by decide +kernel
theorem dX4_lookAtBook_82 : decode cX4_lookAtBook 82 = .ok (.iinc 4 1, 3) := by decide +kernel
theorem dX4_lookAtBook_85 : decode cX4_lookAtBook 85 = .ok (.goto (-68), 3) := by decide +kernel
theorem dX4_lookAtBook_88 : decode cX4_lookAtBook 88 = .ok (.aload_n 0, 1) := by decide +kernel
theorem dX4_lookAtBook_89 : decode cX4_lookAtBook 89 = .ok (.iconst 0, 1) := by decide +kernel
theorem dX4_lookAtBook_90 : decode cX4_lookAtBook 90 = .ok (.putfield 190, 3) := by decide +kernel
theorem dX4_lookAtBook_93 : decode cX4_lookAtBook 93 = .ok (.iload_n 3, 1) := by decide +kernel
theorem dX4_lookAtBook_94 : decode cX4_lookAtBook 94 = .ok (.ireturn, 1) := by decide +kernel
theorem dX4_firstImpossibleGift_0 : decode cX4_firstImpossibleGift 0 = .ok (.aload_n 0, 1) := by decide +kernel
theorem dX4_firstImpossibleGift_1 : decode cX4_firstImpossibleGift 1 = .ok (.getfield 19, 3) := by decide +kernel
theorem dX4_firstImpossibleGift_4 : decode cX4_firstImpossibleGift 4 = .ok (.aload_n 0, 1) := by decide +kernel
theorem dX4_firstImpossibleGift_5 : decode cX4_firstImpossibleGift 5 = .ok (.getfield 10, 3) := by decide +kernel
theorem dX4_firstImpossibleGift_8 : decode cX4_firstImpossibleGift 8 = .ok (.invokevirtual 149, 3) := by decide +kernel
theorem dX4_firstImpossibleGift_11 : decode cX4_firstImpossibleGift 11 = .ok (.iconst 0, 1) := by decide +kernel
theorem dX4_firstImpossibleGift_12 : decode cX4_firstImpossibleGift 12 = .ok (.istore_n 1, 1) := by decide +kernel
theorem dX4_firstImpossibleGift_13 : decode cX4_firstImpossibleGift 13 = .ok (.iload_n 1, 1) := by decide +kernel
theorem dX4_firstImpossibleGift_14 : decode cX4_firstImpossibleGift 14 = .ok (.iconst 2, 1) := by decide +kernel
theorem dX4_firstImpossibleGift_15 : decode cX4_firstImpossibleGift 15 = .ok (.iadd, 1) := by decide +kernel
theorem dX4_firstImpossibleGift_16 : decode cX4_firstImpossibleGift 16 = .ok (.aload_n 0, 1) := by decide +kernel
theorem dX4_firstImpossibleGift_17 : decode cX4_firstImpossibleGift 17 = .ok (.getfield 190, 3) := by decide +kernel
theorem dX4_firstImpossibleGift_20 : decode cX4_firstImpossibleGift 20 = .ok (.if_icmp .ge 62, 3) := by decide +kernel
theorem dX4_firstImpossibleGift_23 : decode cX4_firstImpossibleGift 23 = .ok (.aload_n 0, 1) := by decide +kernel
theorem dX4_firstImpossibleGift_24 : decode cX4_firstImpossibleGift 24 = .ok (.getfield 40, 3) := by decide +kernel
theorem dX4_firstImpossibleGift_27 : decode cX4_firstImpossibleGift 27 = .ok (.iload_n 1, 1) := by decide +kernel
theorem dX4_firstImpossibleGift_28 : decode cX4_firstImpossibleGift 28 = .ok (.iaload, 1) := by decide +kernel
theorem dX4_firstImpossibleGift_29 : decode cX4_firstImpossibleGift 29 = .ok (.istore_n 2, 1) := by decide +kernel
theorem dX4_firstImpossibleGift_30 : decode cX4_firstImpossibleGift 30 = .ok (.aload_n 0, 1) := by decide +kernel
theorem dX4_firstImpossibleGift_31 : decode cX4_firstImpossibleGift 31 = .ok (.getfield 40, 3) := by decide +kernel
theorem dX4_firstImpossibleGift_34 : decode cX4_firstImpossibleGift 34 = .ok (.iload_n 1, 1) := by decide +kernel
theorem dX4_firstImpossibleGift_35 : decode cX4_firstImpossibleGift 35 = .ok (.iconst 1, 1) := by decide +kernel
theorem dX4_firstImpossibleGift_36 : decode cX4_firstImpossibleGift 36 = .ok (.iadd, 1) := by decide +kernel
theorem dX4_firstImpossibleGift_37 : decode cX4_firstImpossibleGift 37 = .ok (.iaload, 1) := by decide +kernel
theorem dX4_firstImpossibleGift_38 : decode cX4_firstImpossibleGift 38 = .ok (.istore_n 3, 1) := by decide +kernel
theorem dX4_firstImpossibleGift_39 : decode cX4_firstImpossibleGift 39 = .ok (.aload_n 0, 1) := by decide +kernel
theorem dX4_firstImpossibleGift_40 : decode cX4_firstImpossibleGift 40 = .ok (.getfield 40, 3) := by decide +kernel
theorem dX4_firstImpossibleGift_43 : decode cX4_firstImpossibleGift 43 = .ok (.iload_n 1, 1) := by decide +kernel
theorem dX4_firstImpossibleGift_44 : decode cX4_firstImpossibleGift 44 = .ok (.iconst 2, 1) := by decide +kernel
theorem dX4_firstImpossibleGift_45 : decode cX4_firstImpossibleGift 45 = .ok (.iadd, 1) := by decide +kernel
theorem dX4_firstImpossibleGift_46 : decode cX4_firstImpossibleGift 46 = .ok (.iaload, 1) := by decide +kernel
theorem dX4_firstImpossibleGift_47 : decode cX4_firstImpossibleGift 47 = .ok (.istore 4, 2) := by decide +kernel
theorem dX4_firstImpossibleGift_49 : decode cX4_firstImpossibleGift 49 = .ok (.aload_n 0, 1) := by decide +kernel
theorem dX4_firstImpossibleGift_50 : decode cX4_firstImpossibleGift 50 = .ok (.getfield 19, 3) := by decide +kernel
theorem dX4_firstImpossibleGift_53 : decode cX4_firstImpossibleGift 53 = .ok (.iload_n 2, 1) := by decide +kernel
theorem dX4_firstImpossibleGift_54 : decode cX4_firstImpossibleGift 54 = .ok (.iload_n 3, 1) := by decide +kernel
theorem dX4_firstImpossibleGift_55 : decode cX4_firstImpossibleGift 55 = .ok (.iload 4, 2) := by decide +kernel
theorem dX4_firstImpossibleGift_57 : decode cX4_firstImpossibleGift 57 = .ok (.invokevirtual 118, 3) := by decide +kernel
theorem dX4_firstImpossibleGift_60 : decode cX4_firstImpossibleGift 60 = .ok (.ifCond .eq 5, 3) := by decide +kernel
theorem dX4_firstImpossibleGift_63 : decode cX4_firstImpossibleGift 63 = .ok (.iload_n 1, 1) := by decide +kernel
theorem dX4_firstImpossibleGift_64 : decode cX4_firstImpossibleGift 64 = .ok (.ireturn, 1) := by decide +kernel
theorem dX4_firstImpossibleGift_65 : decode cX4_firstImpossibleGift 65 = .ok (.aload_n 0, 1) := by decide +kernel
theorem dX4_firstImpossibleGift_66 : decode cX4_firstImpossibleGift 66 = .ok (.getfield 19, 3) := by decide +kernel
theorem dX4_firstImpossibleGift_69 : decode cX4_firstImpossibleGift 69 = .ok (.iload_n 2, 1) := by decide +kernel
theorem dX4_firstImpossibleGift_70 : decode cX4_firstImpossibleGift 70 = .ok (.iload_n 3, 1) := by decide +kernel
theorem dX4_firstImpossibleGift_71 : decode cX4_firstImpossibleGift 71 = .ok (.iload 4, 2) := by decide +kernel
theorem dX4_firstImpossibleGift_73 : decode cX4_firstImpossibleGift 73 = .ok (.invokevirtual 121, 3) := by decide +kernel
theorem dX4_firstImpossibleGift_76 : decode cX4_firstImpossibleGift 76 = .ok (.iinc 1 3, 3) := by decide +kernel
theorem dX4_firstImpossibleGift_79 : decode cX4_firstImpossibleGift 79 = .ok (.goto (-66), 3) := by decide +kernel
theorem dX4_firstImpossibleGift_82 : decode cX4_firstImpossibleGift 82 = .ok (.iload_n 1, 1) := by decide +kernel
theorem dX4_firstImpossibleGift_83 : decode cX4_firstImpossibleGift 83 = .ok (.aload_n 0, 1) := by decide +kernel
theorem dX4_firstImpossibleGift_84 : decode cX4_firstImpossibleGift 84 = .ok (.getfield 190, 3) := by decide +kernel
theorem dX4_firstImpossibleGift_87 : decode cX4_firstImpossibleGift 87 = .ok (.if_icmp .ne 8, 3) := by decide +kernel
theorem dX4_firstImpossibleGift_90 : decode cX4_firstImpossibleGift 90 = .ok (.bipush (-9), 2) := by decide +kernel
theorem dX4_firstImpossibleGift_92 : decode cX4_firstImpossibleGift 92 = .ok (.goto 7, 3) := by decide +kernel
theorem dX4_firstImpossibleGift_95 : decode cX4_firstImpossibleGift 95 = .ok (.aload_n 0, 1) := by decide +kernel
theorem dX4_firstImpossibleGift_96 : decode cX4_firstImpossibleGift 96 = .ok (.getfield 190, 3) := by decide +kernel
theorem dX4_firstImpossibleGift_99 : decode cX4_firstImpossibleGift 99 = .ok (.ireturn, 1) := by decide +kernel
theorem dX4_nextSeed_0 : decode cX4_nextSeed 0 = .ok (.iload_n 0, 1) := by decide +kernel
theorem dX4_nextSeed_1 : decode cX4_nextSeed 1 = .ok (.ldc_w 259, 3) := by decide +kernel
theorem dX4_nextSeed_4 : decode cX4_nextSeed 4 = .ok (.imul, 1) := by decide +kernel
theorem dX4_nextSeed_5 : decode cX4_nextSeed 5 = .ok (.sipush 12345, 3) := by decide +kernel
theorem dX4_nextSeed_8 : decode cX4_nextSeed 8 = .ok (.iadd, 1) := by decide +kernel
theorem dX4_nextSeed_9 : decode cX4_nextSeed 9 = .ok (.ireturn, 1) := by decide +kernel
theorem dX4_draw_0 : decode cX4_draw 0 = .ok (.iload_n 1, 1) := by decide +kernel
theorem dX4_draw_1 : decode cX4_draw 1 = .ok (.iconst 1, 1) := by decide +kernel
theorem dX4_draw_2 : decode cX4_draw 2 = .ok (.if_icmp .ge 7, 3) := by decide +kernel
theorem dX4_draw_5 : decode cX4_draw 5 = .ok (.iconst 0, 1) := by decide +kernel
theorem dX4_draw_6 : decode cX4_draw 6 = .ok (.goto 14, 3) := by decide +kernel
theorem dX4_draw_9 : decode cX4_draw 9 = .ok (.iload_n 0, 1) := by decide +kernel
theorem dX4_draw_10 : decode cX4_draw 10 = .ok (.ldc_w 260, 3) := by decide +kernel
theorem dX4_draw_13 : decode cX4_draw 13 = .ok (.iand, 1) := by decide +kernel
theorem dX4_draw_14 : decode cX4_draw 14 = .ok (.ldc_w 261, 3) := by decide +kernel
theorem dX4_draw_17 : decode cX4_draw 17 = .ok (.idiv, 1) := by decide +kernel
theorem dX4_draw_18 : decode cX4_draw 18 = .ok (.iload_n 1, 1) := by decide +kernel
theorem dX4_draw_19 : decode cX4_draw 19 = .ok (.irem, 1) := by decide +kernel
theorem dX4_draw_20 : decode cX4_draw 20 = .ok (.ireturn, 1) := by decide +kernel
theorem dX5_init_0 : decode cX5_init 0 = .ok (.aload_n 0, 1) := by decide +kernel
theorem dX5_init_1 : decode cX5_init 1 = .ok (.invokespecial 1, 3) := by decide +kernel
theorem dX5_init_4 : decode cX5_init 4 = .ok (.aload_n 0, 1) := by decide +kernel
theorem dX5_init_5 : decode cX5_init 5 = .ok (.iconst 3, 1) := by decide +kernel
theorem dX5_init_6 : decode cX5_init 6 = .ok (.putfield 7, 3) := by decide +kernel
theorem dX5_init_9 : decode cX5_init 9 = .ok (.aload_n 0, 1) := by decide +kernel
theorem dX5_init_10 : decode cX5_init 10 = .ok (.iconst 1, 1) := by decide +kernel
theorem dX5_init_11 : decode cX5_init 11 = .ok (.putfield 13, 3) := by decide +kernel
theorem dX5_init_14 : decode cX5_init 14 = .ok (.aload_n 0, 1) := by decide +kernel
theorem dX5_init_15 : decode cX5_init 15 = .ok (.bipush 6, 2) := by decide +kernel
theorem dX5_init_17 : decode cX5_init 17 = .ok (.newarray .int, 2) := by decide +kernel
theorem dX5_init_19 : decode cX5_init 19 = .ok (.putfield 16, 3) := by decide +kernel
theorem dX5_init_22 : decode cX5_init 22 = .ok (.aload_n 0, 1) := by decide +kernel
theorem dX5_init_23 : decode cX5_init 23 = .ok (.bipush 6, 2) := by decide +kernel
theorem dX5_init_25 : decode cX5_init 25 = .ok (.newarray .int, 2) := by decide +kernel
theorem dX5_init_27 : decode cX5_init 27 = .ok (.putfield 20, 3) := by decide +kernel
theorem dX5_init_30 : decode cX5_init 30 = .ok (.aload_n 0, 1) := by decide +kernel
theorem dX5_init_31 : decode cX5_init 31 = .ok (.bipush 6, 2) := by decide +kernel
theorem dX5_init_33 : decode cX5_init 33 = .ok (.newarray .int, 2) := by decide +kernel
theorem dX5_init_35 : decode cX5_init 35 = .ok (.putfield 23, 3) := by decide +kernel
theorem dX5_init_38 : decode cX5_init 38 = .ok (.aload_n 0, 1) := by decide +kernel
theorem dX5_init_39 : decode cX5_init 39 = .ok (.bipush 6, 2) := by decide +kernel
theorem dX5_init_41 : decode cX5_init 41 = .ok (.newarray .int, 2) := by decide +kernel
theorem dX5_init_43 : decode cX5_init 43 = .ok (.putfield 26, 3) := by decide +kernel
theorem dX5_init_46 : decode cX5_init 46 = .ok (.aload_n 0, 1) := by decide +kernel
theorem dX5_init_47 : decode cX5_init 47 = .ok (.bipush 6, 2) := by decide +kernel
theorem dX5_init_49 : decode cX5_init 49 = .ok (.newarray .int, 2) := by decide +kernel
theorem dX5_init_51 : decode cX5_init 51 = .ok (.putfield 29, 3) := by decide +kernel
theorem dX5_init_54 : decode cX5_init 54 = .ok (.aload_n 0, 1) := by decide +kernel
theorem dX5_init_55 : decode cX5_init 55 = .ok (.sipush 462, 3) := by decide +kernel
theorem dX5_init_58 : decode cX5_init 58 = .ok (.newarray .int, 2) := by decide +kernel
theorem dX5_init_60 : decode cX5_init 60 = .ok (.putfield 32, 3) := by decide +kernel
theorem dX5_init_63 : decode cX5_init 63 = .ok (.aload_n 0, 1) := by decide +kernel
theorem dX5_init_64 : decode cX5_init 64 = .ok (.bipush 7, 2) := by decide +kernel
theorem dX5_init_66 : decode cX5_init 66 = .ok (.newarray .int, 2) := by decide +kernel
theorem dX5_init_68 : decode cX5_init 68 = .ok (.putfield 35, 3) := by decide +kernel
theorem dX5_init_71 : decode cX5_init 71 = .ok (.aload_n 0, 1) := by decide +kernel
theorem dX5_init_72 : decode cX5_init 72 = .ok (.bipush 6, 2) := by decide +kernel
theorem dX5_init_74 : decode cX5_init 74 = .ok (.newarray .int, 2) := by decide +kernel
theorem dX5_init_76 : decode cX5_init 76 = .ok (.putfield 38, 3) := by decide +kernel
theorem dX5_init_79 : decode cX5_init 79 = .ok (.aload_n 0, 1) := by decide +kernel
theorem dX5_init_80 : decode cX5_init 80 = .ok (.sipush 480, 3) := by decide +kernel
theorem dX5_init_83 : decode cX5_init 83 = .ok (.newarray .int, 2) := by decide +kernel
theorem dX5_init_85 : decode cX5_init 85 = .ok (.putfield 41, 3) := by decide +kernel
theorem dX5_init_88 : decode cX5_init 88 = .ok (.aload_n 0, 1) := by decide +kernel
theorem dX5_init_89 : decode cX5_init 89 = .ok (.bipush 64, 2) := by decide +kernel
theorem dX5_init_91 : decode cX5_init 91 = .ok (.newarray .int, 2) := by decide +kernel
theorem dX5_init_93 : decode cX5_init 93 = .ok (.putfield 44, 3) := by decide +kernel
theorem dX5_init_96 : decode cX5_init 96 = .ok (.aload_n 0, 1) := by decide +kernel
theorem dX5_init_97 : decode cX5_init 97 = .ok (.bipush 33, 2) := by decide +kernel
theorem dX5_init_99 : decode cX5_init 99 = .ok (.newarray .int, 2) := by decide +kernel
theorem dX5_init_101 : decode cX5_init 101 = .ok (.putfield 47, 3) := by decide +kernel
theorem dX5_init_104 : decode cX5_init 104 = .ok (.aload_n 0, 1) := by decide +kernel
theorem dX5_init_105 : decode cX5_init 105 = .ok (.bipush 33, 2) := by decide +kernel
theorem dX5_init_107 : decode cX5_init 107 = .ok (.newarray .int, 2) := by decide +kernel
theorem dX5_init_109 : decode cX5_init 109 = .ok (.putfield 50, 3) := by decide +kernel
theorem dX5_init_112 : decode cX5_init 112 = .ok (.aload_n 0, 1) := by decide +kernel
theorem dX5_init_113 : decode cX5_init 113 = .ok (.sipush 165, 3) := by decide +kernel
theorem dX5_init_116 : decode cX5_init 116 = .ok (.newarray .int, 2) := by decide +kernel
theorem dX5_init_118 : decode cX5_init 118 = .ok (.putfield 53, 3) := by decide +kernel
theorem dX5_init_121 : decode cX5_init 121 = .ok (.aload_n 0, 1) := by decide +kernel
theorem dX5_init_122 : decode cX5_init 122 = .ok (.bipush 6, 2) := by decide +kernel
theorem dX5_init_124 : decode cX5_init 124 = .ok (.newarray .int, 2) := by decide +kernel
theorem dX5_init_126 : decode cX5_init 126 = .ok (.putfield 56, 3) := by decide +kernel
theorem dX5_init_129 : decode cX5_init 129 = .ok (.aload_n 0, 1) := by decide +kernel
theorem dX5_init_130 : decode cX5_init 130 = .ok (.bipush 12, 2) := by decide +kernel
theorem dX5_init_132 : decode cX5_init 132 = .ok (.newarray .int, 2) := by decide +kernel
theorem dX5_init_134 : decode cX5_init 134 = .ok (.putfield 59, 3) := by decide +kernel
theorem dX5_init_137 : decode cX5_init 137 = .ok (.aload_n 0, 1) := by decide +kernel
theorem dX5_init_138 : decode cX5_init 138 = .ok (.sipush 480, 3) := by decide +kernel
theorem dX5_init_141 : decode cX5_init 141 = .ok (.newarray .int, 2) := by decide +kernel
theorem dX5_init_143 : decode cX5_init 143 = .ok (.putfield 62, 3) := by decide +kernel
theorem dX5_init_146 : decode cX5_init 146 = .ok (.aload_n 0, 1) := by decide +kernel
theorem dX5_init_147 : decode cX5_init 147 = .ok (.bipush 27, 2) := by decide +kernel
theorem dX5_init_149 : decode cX5_init 149 = .ok (.newarray .int, 2) := by decide +kernel
theorem dX5_init_151 : decode cX5_init 151 = .ok (.putfield 65, 3) := by decide +kernel
theorem dX5_init_154 : decode cX5_init 154 = .ok (.aload_n 0, 1) := by decide +kernel
theorem dX5_init_155 : decode cX5_init 155 = .ok (.iconst 0, 1) := by decide +kernel
theorem dX5_init_156 : decode cX5_init 156 = .ok (.putfield 68, 3) := by decide +kernel
theorem dX5_init_159 : decode cX5_init 159 = .ok (.return_, 1) := by decide +kernel
theorem dX5_in_0 : decode cX5_in 0 = .ok (.lload_n 0, 1) := by decide +kernel
theorem dX5_in_1 : decode cX5_in 1 = .ok (.lload_n 2, 1) := by decide +kernel
theorem dX5_in_2 : decode cX5_in 2 = .ok (.lcmp, 1) := by decide +kernel
theorem dX5_in_3 : decode cX5_in 3 = .ok (.ifCond .lt 14, 3) := by decide +kernel
theorem dX5_in_6 : decode cX5_in 6 = .ok (.lload_n 0, 1) := by decide +kernel
theorem dX5_in_7 : decode cX5_in 7 = .ok (.lload 4, 2) := by decide +kernel
theorem dX5_in_9 : decode cX5_in 9 = .ok (.lcmp, 1) := by decide +kernel
theorem dX5_in_10 : decode cX5_in 10 = .ok (.ifCond .gt 7, 3) := by decide +kernel
theorem dX5_in_13 : decode cX5_in 13 = .ok (.iconst 1, 1) := by decide +kernel
theorem dX5_in_14 : decode cX5_in 14 = .ok (.goto 4, 3) := by decide +kernel
theorem dX5_in_17 : decode cX5_in 17 = .ok (.iconst 0, 1) := by decide +kernel
theorem dX5_in_18 : decode cX5_in 18 = .ok (.ireturn, 1) := by decide +kernel
theorem dX5_refuse_0 : decode cX5_refuse 0 = .ok (.aload_n 0, 1) := by decide +kernel
theorem dX5_refuse_1 : decode cX5_refuse 1 = .ok (.getfield 35, 3) := by decide +kernel
theorem dX5_refuse_4 : decode cX5_refuse 4 = .ok (.iload_n 1, 1) := by decide +kernel
theorem dX5_refuse_5 : decode cX5_refuse 5 = .ok (.ineg, 1) := by decide +kernel
theorem dX5_refuse_6 : decode cX5_refuse 6 = .ok (.dup2, 1) := by decide +kernel
theorem dX5_refuse_7 : decode cX5_refuse 7 = .ok (.iaload, 1) := by decide +kernel
theorem dX5_refuse_8 : decode cX5_refuse 8 = .ok (.iconst 1, 1) := by decide +kernel
theorem dX5_refuse_9 : decode cX5_refuse 9 = .ok (.iadd, 1) := by decide +kernel
theorem dX5_refuse_10 : decode cX5_refuse 10 = .ok (.iastore, 1) := by decide +kernel
theorem dX5_refuse_11 : decode cX5_refuse 11 = .ok (.iload_n 1, 1) := by decide +kernel
theorem dX5_refuse_12 : decode cX5_refuse 12 = .ok (.ireturn, 1) := by decide +kernel
theorem dX5_isOne_0 : decode cX5_isOne 0 = .ok (.iload_n 1, 1) := by decide +kernel
theorem dX5_isOne_1 : decode cX5_isOne 1 = .ok (.i2l, 1) := by decide +kernel
theorem dX5_isOne_2 : decode cX5_isOne 2 = .ok (.lconst 0, 1) := by decide +kernel
theorem dX5_isOne_3 : decode cX5_isOne 3 = .ok (.aload_n 0, 1) := by decide +kernel
theorem dX5_isOne_4 : decode cX5_isOne 4 = .ok (.getfield 71, 3) := by decide +kernel
theorem dX5_isOne_7 : decode cX5_isOne 7 = .ok (.iconst 1, 1) := by decide +kernel
theorem dX5_isOne_8 : decode cX5_isOne 8 = .ok (.isub, 1) := by decide +kernel
theorem dX5_isOne_9 : decode cX5_isOne 9 = .ok (.i2l, 1) := by decide +kernel
theorem dX5_isOne_10 : decode cX5_isOne 10 = .ok (.invokestatic 74, 3) := by decide +kernel
theorem dX5_isOne_13 : decode cX5_isOne 13 = .ok (.ireturn, 1) := by decide +kernel
theorem dX5_lesser_0 : decode cX5_lesser 0 = .ok (.iload_n 0, 1) := by decide +kernel
theorem dX5_lesser_1 : decode cX5_lesser 1 = .ok (.iload_n 1, 1) := by decide +kernel
theorem dX5_lesser_2 : decode cX5_lesser 2 = .ok (.if_icmp .ge 7, 3) := by decide +kernel
theorem dX5_lesser_5 : decode cX5_lesser 5 = .ok (.iload_n 0, 1) := by decide +kernel
theorem dX5_lesser_6 : decode cX5_lesser 6 = .ok (.goto 4, 3) := by decide +kernel
theorem dX5_lesser_9 : decode cX5_lesser 9 = .ok (.iload_n 1, 1) := by decide +kernel
theorem dX5_lesser_10 : decode cX5_lesser 10 = .ok (.ireturn, 1) := by decide +kernel
theorem dX5_gift_0 : decode cX5_gift 0 = .ok (.iload_n 1, 1) := by decide +kernel
theorem dX5_gift_1 : decode cX5_gift 1 = .ok (.ifCond .lt 14, 3) := by decide +kernel
theorem dX5_gift_4 : decode cX5_gift 4 = .ok (.iload_n 1, 1) := by decide +kernel
theorem dX5_gift_5 : decode cX5_gift 5 = .ok (.aload_n 0, 1) := by decide +kernel
theorem dX5_gift_6 : decode cX5_gift 6 = .ok (.getfield 78, 3) := by decide +kernel
theorem dX5_gift_9 : decode cX5_gift 9 = .ok (.bipush 10, 2) := by decide +kernel
theorem dX5_gift_11 : decode cX5_gift 11 = .ok (.isub, 1) := by decide +kernel
theorem dX5_gift_12 : decode cX5_gift 12 = .ok (.if_icmp .ge 7, 3) := by decide +kernel
theorem dX5_gift_15 : decode cX5_gift 15 = .ok (.iconst 0, 1) := by decide +kernel
theorem dX5_gift_16 : decode cX5_gift 16 = .ok (.goto 22, 3) := by decide +kernel
theorem dX5_gift_19 : decode cX5_gift 19 = .ok (.aload_n 0, 1) := by decide +kernel
theorem dX5_gift_20 : decode cX5_gift 20 = .ok (.getfield 32, 3) := by decide +kernel
theorem dX5_gift_23 : decode cX5_gift 23 = .ok (.bipush 42, 2) := by decide +kernel
theorem dX5_gift_25 : decode cX5_gift 25 = .ok (.iload_n 1, 1) := by decide +kernel
theorem dX5_gift_26 : decode cX5_gift 26 = .ok (.bipush 11, 2) := by decide +kernel
theorem dX5_gift_28 : decode cX5_gift 28 = .ok (.irem, 1) := by decide +kernel
theorem dX5_gift_29 : decode cX5_gift 29 = .ok (.imul, 1) := by decide +kernel
theorem dX5_gift_30 : decode cX5_gift 30 = .ok (.bipush 7, 2) := by decide +kernel
theorem dX5_gift_32 : decode cX5_gift 32 = .ok (.iload_n 2, 1) := by decide +kernel
theorem dX5_gift_33 : decode cX5_gift 33 = .ok (.imul, 1) := by decide +kernel
theorem dX5_gift_34 : decode cX5_gift 34 = .ok (.iadd, 1) := by decide +kernel
theorem dX5_gift_35 : decode cX5_gift 35 = .ok (.iload_n 3, 1) := by decide +kernel
theorem dX5_gift_36 : decode cX5_gift 36 = .ok (.iadd, 1) := by decide +kernel
theorem dX5_gift_37 : decode cX5_gift 37 = .ok (.iaload, 1) := by decide +kernel
theorem dX5_gift_38 : decode cX5_gift 38 = .ok (.ireturn, 1) := by decide +kernel
theorem dX5_addGift_0 : decode cX5_addGift 0 = .ok (.aload_n 0, 1) := by decide +kernel
theorem dX5_addGift_1 : decode cX5_addGift 1 = .ok (.getfield 32, 3) := by decide +kernel
theorem dX5_addGift_4 : decode cX5_addGift 4 = .ok (.bipush 42, 2) := by decide +kernel
theorem dX5_addGift_6 : decode cX5_addGift 6 = .ok (.aload_n 0, 1) := by decide +kernel
theorem dX5_addGift_7 : decode cX5_addGift 7 = .ok (.getfield 78, 3) := by decide +kernel
theorem dX5_addGift_10 : decode cX5_addGift 10 = .ok (.bipush 11, 2) := by decide +kernel
theorem dX5_addGift_12 : decode cX5_addGift 12 = .ok (.irem, 1) := by decide +kernel
theorem dX5_addGift_13 : decode cX5_addGift 13 = .ok (.imul, 1) := by decide +kernel
theorem dX5_addGift_14 : decode cX5_addGift 14 = .ok (.bipush 7, 2) := by decide +kernel
theorem dX5_addGift_16 : decode cX5_addGift 16 = .ok (.iload_n 1, 1) := by decide +kernel
theorem dX5_addGift_17 : decode cX5_addGift 17 = .ok (.imul, 1) := by decide +kernel
theorem dX5_addGift_18 : decode cX5_addGift 18 = .ok (.iadd, 1) := by decide +kernel
theorem dX5_addGift_19 : decode cX5_addGift 19 = .ok (.iload_n 2, 1) := by decide +kernel
theorem dX5_addGift_20 : decode cX5_addGift 20 = .ok (.iadd, 1) := by decide +kernel
theorem dX5_addGift_21 : decode cX5_addGift 21 = .ok (.dup2, 1) := by decide +kernel
theorem dX5_addGift_22 : decode cX5_addGift 22 = .ok (.iaload, 1) := by decide +kernel
theorem dX5_addGift_23 : decode cX5_addGift 23 = .ok (.iload_n 3, 1) := by decide +kernel
theorem dX5_addGift_24 : decode cX5_addGift 24 = .ok (.iadd, 1) := by decide +kernel
theorem dX5_addGift_25 : decode cX5_addGift 25 = .ok (.iastore, 1) := by decide +kernel
theorem dX5_addGift_26 : decode cX5_addGift 26 = .ok (.aload_n 0, 1) := by decide +kernel
theorem dX5_addGift_27 : decode cX5_addGift 27 = .ok (.getfield 29, 3) := by decide +kernel
theorem dX5_addGift_30 : decode cX5_addGift 30 = .ok (.iload_n 1, 1) := by decide +kernel
theorem dX5_addGift_31 : decode cX5_addGift 31 = .ok (.dup2, 1) := by decide +kernel
theorem dX5_addGift_32 : decode cX5_addGift 32 = .ok (.iaload, 1) := by decide +kernel
theorem dX5_addGift_33 : decode cX5_addGift 33 = .ok (.iload_n 3, 1) := by decide +kernel
theorem dX5_addGift_34 : decode cX5_addGift 34 = .ok (.isub, 1) := by decide +kernel
theorem dX5_addGift_35 : decode cX5_addGift 35 = .ok (.iastore, 1) := by decide +kernel
theorem dX5_addGift_36 : decode cX5_addGift 36 = .ok (.return_, 1) := by decide +kernel
theorem dX5_given_0 : decode cX5_given 0 = .ok (.iconst 0, 1) := by decide +kernel
theorem dX5_given_1 : decode cX5_given 1 = .ok (.istore_n 3, 1) := by decide +kernel
theorem dX5_given_2 : decode cX5_given 2 = .ok (.iconst 0, 1) := by decide +kernel
theorem dX5_given_3 : decode cX5_given 3 = .ok (.istore 4, 2) := by decide +kernel
theorem dX5_given_5 : decode cX5_given 5 = .ok (.iload 4, 2) := by decide +kernel
theorem dX5_given_7 : decode cX5_given 7 = .ok (.bipush 7, 2) := by decide +kernel
theorem dX5_given_9 : decode cX5_given 9 = .ok (.if_icmp .ge 20, 3) := by decide +kernel
theorem dX5_given_12 : decode cX5_given 12 = .ok (.iload_n 3, 1) := by decide +kernel
theorem dX5_given_13 : decode cX5_given 13 = .ok (.aload_n 0, 1) := by decide +kernel
theorem dX5_given_14 : decode cX5_given 14 = .ok (.iload_n 1, 1) := by decide +kernel
theorem dX5_given_15 : decode cX5_given 15 = .ok (.iload_n 2, 1) := by decide +kernel
theorem dX5_given_16 : decode cX5_given 16 = .ok (.iload 4, 2) := by decide +kernel
theorem dX5_given_18 : decode cX5_given 18 = .ok (.invokevirtual 81, 3) := by decide +kernel
theorem dX5_given_21 : decode cX5_given 21 = .ok (.iadd, 1) := by decide +kernel
theorem dX5_given_22 : decode cX5_given 22 = .ok (.istore_n 3, 1) := by decide +kernel
theorem dX5_given_23 : decode cX5_given 23 = .ok (.iinc 4 1, 3) := by decide +kernel
theorem dX5_given_26 : decode cX5_given 26 = .ok (.goto (-21), 3) := by decide +kernel
theorem dX5_given_29 : decode cX5_given 29 = .ok (.iload_n 3, 1) := by decide +kernel
theorem dX5_given_30 : decode cX5_given 30 = .ok (.ireturn, 1) := by decide +kernel
theorem dX5_got_0 : decode cX5_got 0 = .ok (.iconst 0, 1) := by decide +kernel
theorem dX5_got_1 : decode cX5_got 1 = .ok (.istore_n 3, 1) := by decide +kernel
theorem dX5_got_2 : decode cX5_got 2 = .ok (.iconst 0, 1) := by decide +kernel
theorem dX5_got_3 : decode cX5_got 3 = .ok (.istore 4, 2) := by decide +kernel
theorem dX5_got_5 : decode cX5_got 5 = .ok (.iload 4, 2) := by decide +kernel
theorem dX5_got_7 : decode cX5_got 7 = .ok (.aload_n 0, 1) := by decide +kernel
theorem dX5_got_8 : decode cX5_got 8 = .ok (.getfield 71, 3) := by decide +kernel
theorem dX5_got_11 : decode cX5_got 11 = .ok (.if_icmp .ge 20, 3) := by decide +kernel
theorem dX5_got_14 : decode cX5_got 14 = .ok (.iload_n 3, 1) := by decide +kernel
theorem dX5_got_15 : decode cX5_got 15 = .ok (.aload_n 0, 1) := by decide +kernel
theorem dX5_got_16 : decode cX5_got 16 = .ok (.iload_n 1, 1) := by decide +kernel
theorem dX5_got_17 : decode cX5_got 17 = .ok (.iload 4, 2) := by decide +kernel
theorem dX5_got_19 : decode cX5_got 19 = .ok (.iload_n 2, 1) := by decide +kernel
theorem dX5_got_20 : decode cX5_got 20 = .ok (.invokevirtual 81, 3) := by decide +kernel
theorem dX5_got_23 : decode cX5_got 23 = .ok (.iadd, 1) := by decide +kernel
theorem dX5_got_24 : decode cX5_got 24 = .ok (.istore_n 3, 1) := by decide +kernel
theorem dX5_got_25 : decode cX5_got 25 = .ok (.iinc 4 1, 3) := by decide +kernel
theorem dX5_got_28 : decode cX5_got 28 = .ok (.goto (-23), 3) := by decide +kernel
theorem dX5_got_31 : decode cX5_got 31 = .ok (.iload_n 3, 1) := by decide +kernel
theorem dX5_got_32 : decode cX5_got 32 = .ok (.ireturn, 1) := by decide +kernel
theorem dX5_cameBack_0 : decode cX5_cameBack 0 = .ok (.iconst 0, 1) := by decide +kernel
theorem dX5_cameBack_1 : decode cX5_cameBack 1 = .ok (.istore 4, 2) := by decide +kernel
theorem dX5_cameBack_3 : decode cX5_cameBack 3 = .ok (.iload_n 1, 1) := by decide +kernel
theorem dX5_cameBack_4 : decode cX5_cameBack 4 = .ok (.aload_n 0, 1) := by decide +kernel
theorem dX5_cameBack_5 : decode cX5_cameBack 5 = .ok (.getfield 85, 3) := by decide +kernel
theorem dX5_cameBack_8 : decode cX5_cameBack 8 = .ok (.isub, 1) := by decide +kernel
theorem dX5_cameBack_9 : decode cX5_cameBack 9 = .ok (.istore 5, 2) := by decide +kernel
theorem dX5_cameBack_11 : decode cX5_cameBack 11 = .ok (.iload 5, 2) := by decide +kernel
theorem dX5_cameBack_13 : decode cX5_cameBack 13 = .ok (.iload_n 1, 1) := by decide +kernel
theorem dX5_cameBack_14 : decode cX5_cameBack 14 = .ok (.if_icmp .gt 39, 3) := by decide +kernel
theorem dX5_cameBack_17 : decode cX5_cameBack 17 = .ok (.aload_n 0, 1) := by decide +kernel
theorem dX5_cameBack_18 : decode cX5_cameBack 18 = .ok (.getfield 85, 3) := by decide +kernel
theorem dX5_cameBack_21 : decode cX5_cameBack 21 = .ok (.ifCond .le 32, 3) := by decide +kernel
theorem dX5_cameBack_24 : decode cX5_cameBack 24 = .ok (.iload 4, 2) := by decide +kernel
theorem dX5_cameBack_26 : decode cX5_cameBack 26 = .ok (.ifCond .ne 14, 3) := by decide +kernel
theorem dX5_cameBack_29 : decode cX5_cameBack 29 = .ok (.aload_n 0, 1) := by decide +kernel
theorem dX5_cameBack_30 : decode cX5_cameBack 30 = .ok (.iload 5, 2) := by decide +kernel
theorem dX5_cameBack_32 : decode cX5_cameBack 32 = .ok (.iload_n 3, 1) := by decide +kernel
theorem dX5_cameBack_33 : decode cX5_cameBack 33 = .ok (.iload_n 2, 1) := by decide +kernel
theorem dX5_cameBack_34 : decode cX5_cameBack 34 = .ok (.invokevirtual 81, 3) := by decide +kernel
theorem dX5_cameBack_37 : decode cX5_cameBack 37 = .ok (.ifCond .le 7, 3) := by decide +kernel
theorem dX5_cameBack_40 : decode cX5_cameBack 40 = .ok (.iconst 1, 1) := by decide +kernel
theorem dX5_cameBack_41 : decode cX5_cameBack 41 = .ok (.goto 4, 3) := by decide +kernel
theorem dX5_cameBack_44 : decode cX5_cameBack 44 = .ok (.iconst 0, 1) := by decide +kernel
theorem dX5_cameBack_45 : decode cX5_cameBack 45 = .ok (.istore 4, 2) := by decide +kernel
theorem dX5_cameBack_47 : decode cX5_cameBack 47 = .ok (.iinc 5 1, 3) := by decide +kernel
theorem dX5_cameBack_50 : decode cX5_cameBack 50 = .ok (.goto (-39), 3) := by decide +kernel
theorem dX5_cameBack_53 : decode cX5_cameBack 53 = .ok (.iload 4, 2) := by decide +kernel
theorem dX5_cameBack_55 : decode cX5_cameBack 55 = .ok (.ireturn, 1) := by decide +kernel
theorem dX5_counted_0 : decode cX5_counted 0 = .ok (.aload_n 0, 1) := by decide +kernel
theorem dX5_counted_1 : decode cX5_counted 1 = .ok (.iload_n 1, 1) := by decide +kernel
theorem dX5_counted_2 : decode cX5_counted 2 = .ok (.iload_n 2, 1) := by decide +kernel
theorem dX5_counted_3 : decode cX5_counted 3 = .ok (.bipush 6, 2) := by decide +kernel
theorem dX5_counted_5 : decode cX5_counted 5 = .ok (.invokevirtual 81, 3) := by decide +kernel
theorem dX5_counted_8 : decode cX5_counted 8 = .ok (.istore_n 3, 1) := by decide +kernel
theorem dX5_counted_9 : decode cX5_counted 9 = .ok (.iconst 0, 1) := by decide +kernel
theorem dX5_counted_10 : decode cX5_counted 10 = .ok (.istore 4, 2) := by decide +kernel
theorem dX5_counted_12 : decode cX5_counted 12 = .ok (.iload 4, 2) := by decide +kernel
theorem dX5_counted_14 : decode cX5_counted 14 = .ok (.aload_n 0, 1) := by decide +kernel
theorem dX5_counted_15 : decode cX5_counted 15 = .ok (.getfield 71, 3) := by decide +kernel
theorem dX5_counted_18 : decode cX5_counted 18 = .ok (.if_icmp .ge 44, 3) := by decide +kernel
theorem dX5_counted_21 : decode cX5_counted 21 = .ok (.aload_n 0, 1) := by decide +kernel
theorem dX5_counted_22 : decode cX5_counted 22 = .ok (.iload_n 1, 1) := by decide +kernel
theorem dX5_counted_23 : decode cX5_counted 23 = .ok (.iload_n 2, 1) := by decide +kernel
theorem dX5_counted_24 : decode cX5_counted 24 = .ok (.iload 4, 2) := by decide +kernel
theorem dX5_counted_26 : decode cX5_counted 26 = .ok (.invokevirtual 81, 3) := by decide +kernel
theorem dX5_counted_29 : decode cX5_counted 29 = .ok (.istore 5, 2) := by decide +kernel
theorem dX5_counted_31 : decode cX5_counted 31 = .ok (.iload_n 3, 1) := by decide +kernel
theorem dX5_counted_32 : decode cX5_counted 32 = .ok (.iload 5, 2) := by decide +kernel
theorem dX5_counted_34 : decode cX5_counted 34 = .ok (.ifCond .le 19, 3) := by decide +kernel
theorem dX5_counted_37 : decode cX5_counted 37 = .ok (.aload_n 0, 1) := by decide +kernel
theorem dX5_counted_38 : decode cX5_counted 38 = .ok (.iload_n 1, 1) := by decide +kernel
theorem dX5_counted_39 : decode cX5_counted 39 = .ok (.iload_n 2, 1) := by decide +kernel
theorem dX5_counted_40 : decode cX5_counted 40 = .ok (.iload 4, 2) := by decide +kernel
theorem dX5_counted_42 : decode cX5_counted 42 = .ok (.invokevirtual 88, 3) := by decide +kernel
theorem dX5_counted_45 : decode cX5_counted 45 = .ok (.ifCond .ne 8, 3) := by decide +kernel
theorem dX5_counted_48 : decode cX5_counted 48 = .ok (.iload 5, 2) := by decide +kernel
theorem dX5_counted_50 : decode cX5_counted 50 = .ok (.goto 4, 3) := by decide +kernel
theorem dX5_counted_53 : decode cX5_counted 53 = .ok (.iconst 0, 1) := by decide +kernel
theorem dX5_counted_54 : decode cX5_counted 54 = .ok (.iadd, 1) := by decide +kernel
theorem dX5_counted_55 : decode cX5_counted 55 = .ok (.istore_n 3, 1) := by decide +kernel
theorem dX5_counted_56 : decode cX5_counted 56 = .ok (.iinc 4 1, 3) := by decide +kernel
theorem dX5_counted_59 : decode cX5_counted 59 = .ok (.goto (-47), 3) := by decide +kernel
theorem dX5_counted_62 : decode cX5_counted 62 = .ok (.iload_n 3, 1) := by decide +kernel
theorem dX5_counted_63 : decode cX5_counted 63 = .ok (.ireturn, 1) := by decide +kernel
theorem dX5_leave_0 : decode cX5_leave 0 = .ok (.aload_n 0, 1) := by decide +kernel
theorem dX5_leave_1 : decode cX5_leave 1 = .ok (.getfield 16, 3) := by decide +kernel
theorem dX5_leave_4 : decode cX5_leave 4 = .ok (.iload_n 1, 1) := by decide +kernel
theorem dX5_leave_5 : decode cX5_leave 5 = .ok (.iaload, 1) := by decide +kernel
theorem dX5_leave_6 : decode cX5_leave 6 = .ok (.bipush 7, 2) := by decide +kernel
theorem dX5_leave_8 : decode cX5_leave 8 = .ok (.if_icmp .ne 7, 3) := by decide +kernel
theorem dX5_leave_11 : decode cX5_leave 11 = .ok (.sipush 9999, 3) := by decide +kernel
theorem dX5_leave_14 : decode cX5_leave 14 = .ok (.ireturn, 1) := by decide +kernel
theorem dX5_leave_15 : decode cX5_leave 15 = .ok (.aload_n 0, 1) := by decide +kernel
theorem dX5_leave_16 : decode cX5_leave 16 = .ok (.aload_n 0, 1) := by decide +kernel
theorem dX5_leave_17 : decode cX5_leave 17 = .ok (.getfield 78, 3) := by decide +kernel
theorem dX5_leave_20 : decode cX5_leave 20 = .ok (.iconst 1, 1) := by decide +kernel
theorem dX5_leave_21 : decode cX5_leave 21 = .ok (.isub, 1) := by decide +kernel
theorem dX5_leave_22 : decode cX5_leave 22 = .ok (.iload_n 1, 1) := by decide +kernel
theorem dX5_leave_23 : decode cX5_leave 23 = .ok (.invokevirtual 92, 3) := by decide +kernel
theorem dX5_leave_26 : decode cX5_leave 26 = .ok (.istore_n 2, 1) := by decide +kernel
theorem dX5_leave_27 : decode cX5_leave 27 = .ok (.iconst 0, 1) := by decide +kernel
theorem dX5_leave_28 : decode cX5_leave 28 = .ok (.istore_n 3, 1) := by decide +kernel
theorem dX5_leave_29 : decode cX5_leave 29 = .ok (.iconst 0, 1) := by decide +kernel
theorem dX5_leave_30 : decode cX5_leave 30 = .ok (.istore 4, 2) := by decide +kernel
theorem dX5_leave_32 : decode cX5_leave 32 = .ok (.iconst 1, 1) := by decide +kernel
theorem dX5_leave_33 : decode cX5_leave 33 = .ok (.istore 5, 2) := by decide +kernel
theorem dX5_leave_35 : decode cX5_leave 35 = .ok (.iload 5, 2) := by decide +kernel
theorem dX5_leave_37 : decode cX5_leave 37 = .ok (.aload_n 0, 1) := by decide +kernel
theorem dX5_leave_38 : decode cX5_leave 38 = .ok (.getfield 7, 3) := by decide +kernel
theorem dX5_leave_41 : decode cX5_leave 41 = .ok (.if_icmp .gt 44, 3) := by decide +kernel
theorem dX5_leave_44 : decode cX5_leave 44 = .ok (.aload_n 0, 1) := by decide +kernel
theorem dX5_leave_45 : decode cX5_leave 45 = .ok (.aload_n 0, 1) := by decide +kernel
theorem dX5_leave_46 : decode cX5_leave 46 = .ok (.getfield 78, 3) := by decide +kernel
theorem dX5_leave_49 : decode cX5_leave 49 = .ok (.iload 5, 2) := by decide +kernel
theorem dX5_leave_51 : decode cX5_leave 51 = .ok (.isub, 1) := by decide +kernel
theorem dX5_leave_52 : decode cX5_leave 52 = .ok (.iload_n 1, 1) := by decide +kernel
theorem dX5_leave_53 : decode cX5_leave 53 = .ok (.invokevirtual 92, 3) := by decide +kernel
theorem dX5_leave_56 : decode cX5_leave 56 = .ok (.istore 6, 2) := by decide +kernel
theorem dX5_leave_58 : decode cX5_leave 58 = .ok (.iload_n 3, 1) := by decide +kernel
theorem dX5_leave_59 : decode cX5_leave 59 = .ok (.iload 6, 2) := by decide +kernel
theorem dX5_leave_61 : decode cX5_leave 61 = .ok (.iadd, 1) := by decide +kernel
theorem dX5_leave_62 : decode cX5_leave 62 = .ok (.istore_n 3, 1) := by decide +kernel
theorem dX5_leave_63 : decode cX5_leave 63 = .ok (.iload 6, 2) := by decide +kernel
theorem dX5_leave_65 : decode cX5_leave 65 = .ok (.iload 4, 2) := by decide +kernel
theorem dX5_leave_67 : decode cX5_leave 67 = .ok (.if_icmp .le 8, 3) := by decide +kernel
theorem dX5_leave_70 : decode cX5_leave 70 = .ok (.iload 6, 2) := by decide +kernel
theorem dX5_leave_72 : decode cX5_leave 72 = .ok (.goto 5, 3) := by decide +kernel
theorem dX5_leave_75 : decode cX5_leave 75 = .ok (.iload 4, 2) := by decide +kernel
theorem dX5_leave_77 : decode cX5_leave 77 = .ok (.istore 4, 2) := by decide +kernel
theorem dX5_leave_79 : decode cX5_leave 79 = .ok (.iinc 5 1, 3) := by decide +kernel
theorem dX5_leave_82 : decode cX5_leave 82 = .ok (.goto (-47), 3) := by decide +kernel
theorem dX5_leave_85 : decode cX5_leave 85 = .ok (.iload_n 2, 1) := by decide +kernel
theorem dX5_leave_86 : decode cX5_leave 86 = .ok (.iconst 1, 1) := by decide +kernel
theorem dX5_leave_87 : decode cX5_leave 87 = .ok (.iadd, 1) := by decide +kernel
theorem dX5_leave_88 : decode cX5_leave 88 = .ok (.iconst 2, 1) := by decide +kernel
theorem dX5_leave_89 : decode cX5_leave 89 = .ok (.idiv, 1) := by decide +kernel
theorem dX5_leave_90 : decode cX5_leave 90 = .ok (.istore 5, 2) := by decide +kernel
theorem dX5_leave_92 : decode cX5_leave 92 = .ok (.aload_n 0, 1) := by decide +kernel
theorem dX5_leave_93 : decode cX5_leave 93 = .ok (.getfield 96, 3) := by decide +kernel
theorem dX5_leave_96 : decode cX5_leave 96 = .ok (.ifCond .ne 7, 3) := by decide +kernel
theorem dX5_leave_99 : decode cX5_leave 99 = .ok (.iload_n 2, 1) := by decide +kernel
theorem dX5_leave_100 : decode cX5_leave 100 = .ok (.goto 64, 3) := by decide +kernel
theorem dX5_leave_103 : decode cX5_leave 103 = .ok (.aload_n 0, 1) := by decide +kernel
theorem dX5_leave_104 : decode cX5_leave 104 = .ok (.getfield 96, 3) := by decide +kernel
theorem dX5_leave_107 : decode cX5_leave 107 = .ok (.iconst 1, 1) := by decide +kernel
theorem dX5_leave_108 : decode cX5_leave 108 = .ok (.if_icmp .ne 8, 3) := by decide +kernel
theorem dX5_leave_111 : decode cX5_leave 111 = .ok (.iload 5, 2) := by decide +kernel
theorem dX5_leave_113 : decode cX5_leave 113 = .ok (.goto 51, 3) := by decide +kernel
theorem dX5_leave_116 : decode cX5_leave 116 = .ok (.aload_n 0, 1) := by decide +kernel
theorem dX5_leave_117 : decode cX5_leave 117 = .ok (.getfield 96, 3) := by decide +kernel
theorem dX5_leave_120 : decode cX5_leave 120 = .ok (.iconst 2, 1) := by decide +kernel
theorem dX5_leave_121 : decode cX5_leave 121 = .ok (.if_icmp .ne 9, 3) := by decide +kernel
theorem dX5_leave_124 : decode cX5_leave 124 = .ok (.iconst 2, 1) := by decide +kernel
theorem dX5_leave_125 : decode cX5_leave 125 = .ok (.iload_n 2, 1) := by decide +kernel
theorem dX5_leave_126 : decode cX5_leave 126 = .ok (.imul, 1) := by decide +kernel
theorem dX5_leave_127 : decode cX5_leave 127 = .ok (.goto 37, 3) := by decide +kernel
theorem dX5_leave_130 : decode cX5_leave 130 = .ok (.aload_n 0, 1) := by decide +kernel
theorem dX5_leave_131 : decode cX5_leave 131 = .ok (.getfield 96, 3) := by decide +kernel
theorem dX5_leave_134 : decode cX5_leave 134 = .ok (.iconst 3, 1) := by decide +kernel
theorem dX5_leave_135 : decode cX5_leave 135 = .ok (.if_icmp .ne 7, 3) := by decide +kernel
theorem dX5_leave_138 : decode cX5_leave 138 = .ok (.iload_n 3, 1) := by decide +kernel
theorem dX5_leave_139 : decode cX5_leave 139 = .ok (.goto 25, 3) := by decide +kernel
theorem dX5_leave_142 : decode cX5_leave 142 = .ok (.aload_n 0, 1) := by decide +kernel
theorem dX5_leave_143 : decode cX5_leave 143 = .ok (.getfield 96, 3) := by decide +kernel
theorem dX5_leave_146 : decode cX5_leave 146 = .ok (.iconst 4, 1) := by decide +kernel
theorem dX5_leave_147 : decode cX5_leave 147 = .ok (.if_icmp .ne 8, 3) := by decide +kernel
theorem dX5_leave_150 : decode cX5_leave 150 = .ok (.iload 4, 2) := by decide +kernel
theorem dX5_leave_152 : decode cX5_leave 152 = .ok (.goto 12, 3) := by decide +kernel
theorem dX5_leave_155 : decode cX5_leave 155 = .ok (.iload 5, 2) := by decide +kernel
theorem dX5_leave_157 : decode cX5_leave 157 = .ok (.aload_n 0, 1) := by decide +kernel
theorem dX5_leave_158 : decode cX5_leave 158 = .ok (.getfield 20, 3) := by decide +kernel
theorem dX5_leave_161 : decode cX5_leave 161 = .ok (.iload_n 1, 1) := by decide +kernel
theorem dX5_leave_162 : decode cX5_leave 162 = .ok (.iaload, 1) := by decide +kernel
theorem dX5_leave_163 : decode cX5_leave 163 = .ok (.iadd, 1) := by decide +kernel
theorem dX5_leave_164 : decode cX5_leave 164 = .ok (.istore 6, 2) := by decide +kernel
end
section
theorem dX5_leave_166 : decode cX5_leave 166 = .ok (.iload 6, 2) := by decide +kernel
theorem dX5_leave_168 : decode cX5_leave 168 = .ok (.aload_n 0, 1) := by decide +kernel
theorem dX5_leave_169 : decode cX5_leave 169 = .ok (.getfield 13, 3) := by decide +kernel
theorem dX5_leave_172 : decode cX5_leave 172 = .ok (.if_icmp .ge 10, 3) := by decide +kernel
theorem dX5_leave_175 : decode cX5_leave 175 = .ok (.aload_n 0, 1) := by decide +kernel
theorem dX5_leave_176 : decode cX5_leave 176 = .ok (.getfield 13, 3) := by decide +kernel
theorem dX5_leave_179 : decode cX5_leave 179 = .ok (.goto 5, 3) := by decide +kernel
theorem dX5_leave_182 : decode cX5_leave 182 = .ok (.iload 6, 2) := by decide +kernel
theorem dX5_leave_184 : decode cX5_leave 184 = .ok (.istore 6, 2) := by decide +kernel
theorem dX5_leave_186 : decode cX5_leave 186 = .ok (.iload 6, 2) := by decide +kernel
theorem dX5_leave_188 : decode cX5_leave 188 = .ok (.sipush 9999, 3) := by decide +kernel
theorem dX5_leave_191 : decode cX5_leave 191 = .ok (.invokestatic 99, 3) := by decide +kernel
theorem dX5_leave_194 : decode cX5_leave 194 = .ok (.ireturn, 1) := by decide +kernel
theorem dX5_target_0 : decode cX5_target 0 = .ok (.aload_n 0, 1) := by decide +kernel
theorem dX5_target_1 : decode cX5_target 1 = .ok (.getfield 16, 3) := by decide +kernel
theorem dX5_target_4 : decode cX5_target 4 = .ok (.iload_n 1, 1) := by decide +kernel
theorem dX5_target_5 : decode cX5_target 5 = .ok (.iaload, 1) := by decide +kernel
theorem dX5_target_6 : decode cX5_target 6 = .ok (.iconst 4, 1) := by decide +kernel
theorem dX5_target_7 : decode cX5_target 7 = .ok (.if_icmp .ne 14, 3) := by decide +kernel
theorem dX5_target_10 : decode cX5_target 10 = .ok (.iload_n 1, 1) := by decide +kernel
theorem dX5_target_11 : decode cX5_target 11 = .ok (.iconst 1, 1) := by decide +kernel
theorem dX5_target_12 : decode cX5_target 12 = .ok (.iadd, 1) := by decide +kernel
theorem dX5_target_13 : decode cX5_target 13 = .ok (.aload_n 0, 1) := by decide +kernel
theorem dX5_target_14 : decode cX5_target 14 = .ok (.getfield 71, 3) := by decide +kernel
theorem dX5_target_17 : decode cX5_target 17 = .ok (.irem, 1) := by decide +kernel
theorem dX5_target_18 : decode cX5_target 18 = .ok (.goto 35, 3) := by decide +kernel
theorem dX5_target_21 : decode cX5_target 21 = .ok (.aload_n 0, 1) := by decide +kernel
theorem dX5_target_22 : decode cX5_target 22 = .ok (.getfield 16, 3) := by decide +kernel
theorem dX5_target_25 : decode cX5_target 25 = .ok (.iload_n 1, 1) := by decide +kernel
theorem dX5_target_26 : decode cX5_target 26 = .ok (.iaload, 1) := by decide +kernel
theorem dX5_target_27 : decode cX5_target 27 = .ok (.bipush 6, 2) := by decide +kernel
theorem dX5_target_29 : decode cX5_target 29 = .ok (.if_icmp .ne 18, 3) := by decide +kernel
theorem dX5_target_32 : decode cX5_target 32 = .ok (.aload_n 0, 1) := by decide +kernel
theorem dX5_target_33 : decode cX5_target 33 = .ok (.getfield 78, 3) := by decide +kernel
theorem dX5_target_36 : decode cX5_target 36 = .ok (.iconst 2, 1) := by decide +kernel
theorem dX5_target_37 : decode cX5_target 37 = .ok (.irem, 1) := by decide +kernel
theorem dX5_target_38 : decode cX5_target 38 = .ok (.iconst 1, 1) := by decide +kernel
theorem dX5_target_39 : decode cX5_target 39 = .ok (.if_icmp .ne 8, 3) := by decide +kernel
theorem dX5_target_42 : decode cX5_target 42 = .ok (.bipush 9, 2) := by decide +kernel
theorem dX5_target_44 : decode cX5_target 44 = .ok (.goto 9, 3) := by decide +kernel
theorem dX5_target_47 : decode cX5_target 47 = .ok (.aload_n 0, 1) := by decide +kernel
theorem dX5_target_48 : decode cX5_target 48 = .ok (.getfield 26, 3) := by decide +kernel
theorem dX5_target_51 : decode cX5_target 51 = .ok (.iload_n 1, 1) := by decide +kernel
theorem dX5_target_52 : decode cX5_target 52 = .ok (.iaload, 1) := by decide +kernel
theorem dX5_target_53 : decode cX5_target 53 = .ok (.ireturn, 1) := by decide +kernel
theorem dX5_grown_0 : decode cX5_grown 0 = .ok (.aload_n 0, 1) := by decide +kernel
theorem dX5_grown_1 : decode cX5_grown 1 = .ok (.getfield 29, 3) := by decide +kernel
theorem dX5_grown_4 : decode cX5_grown 4 = .ok (.iload_n 1, 1) := by decide +kernel
theorem dX5_grown_5 : decode cX5_grown 5 = .ok (.iaload, 1) := by decide +kernel
theorem dX5_grown_6 : decode cX5_grown 6 = .ok (.aload_n 0, 1) := by decide +kernel
theorem dX5_grown_7 : decode cX5_grown 7 = .ok (.getfield 23, 3) := by decide +kernel
theorem dX5_grown_10 : decode cX5_grown 10 = .ok (.iload_n 1, 1) := by decide +kernel
theorem dX5_grown_11 : decode cX5_grown 11 = .ok (.iaload, 1) := by decide +kernel
theorem dX5_grown_12 : decode cX5_grown 12 = .ok (.aload_n 0, 1) := by decide +kernel
theorem dX5_grown_13 : decode cX5_grown 13 = .ok (.aload_n 0, 1) := by decide +kernel
theorem dX5_grown_14 : decode cX5_grown 14 = .ok (.getfield 78, 3) := by decide +kernel
theorem dX5_grown_17 : decode cX5_grown 17 = .ok (.iconst 1, 1) := by decide +kernel
theorem dX5_grown_18 : decode cX5_grown 18 = .ok (.isub, 1) := by decide +kernel
theorem dX5_grown_19 : decode cX5_grown 19 = .ok (.iload_n 1, 1) := by decide +kernel
theorem dX5_grown_20 : decode cX5_grown 20 = .ok (.invokevirtual 102, 3) := by decide +kernel
theorem dX5_grown_23 : decode cX5_grown 23 = .ok (.iadd, 1) := by decide +kernel
theorem dX5_grown_24 : decode cX5_grown 24 = .ok (.invokestatic 99, 3) := by decide +kernel
theorem dX5_grown_27 : decode cX5_grown 27 = .ok (.ireturn, 1) := by decide +kernel
theorem dX5_byKind_0 : decode cX5_byKind 0 = .ok (.aload_n 0, 1) := by decide +kernel
theorem dX5_byKind_1 : decode cX5_byKind 1 = .ok (.iload_n 1, 1) := by decide +kernel
theorem dX5_byKind_2 : decode cX5_byKind 2 = .ok (.invokevirtual 105, 3) := by decide +kernel
theorem dX5_byKind_5 : decode cX5_byKind 5 = .ok (.iload_n 1, 1) := by decide +kernel
theorem dX5_byKind_6 : decode cX5_byKind 6 = .ok (.if_icmp .ne 5, 3) := by decide +kernel
theorem dX5_byKind_9 : decode cX5_byKind 9 = .ok (.iconst 0, 1) := by decide +kernel
theorem dX5_byKind_10 : decode cX5_byKind 10 = .ok (.ireturn, 1) := by decide +kernel
theorem dX5_byKind_11 : decode cX5_byKind 11 = .ok (.aload_n 0, 1) := by decide +kernel
theorem dX5_byKind_12 : decode cX5_byKind 12 = .ok (.getfield 16, 3) := by decide +kernel
theorem dX5_byKind_15 : decode cX5_byKind 15 = .ok (.iload_n 1, 1) := by decide +kernel
theorem dX5_byKind_16 : decode cX5_byKind 16 = .ok (.iaload, 1) := by decide +kernel
theorem dX5_byKind_17 : decode cX5_byKind 17 = .ok (.tableswitch 120 1 7 #[43, 50, 59, 43, 65, 43, 91], 43) := by decide +kernel
theorem dX5_byKind_60 : decode cX5_byKind 60 = .ok (.aload_n 0, 1) := by decide +kernel
theorem dX5_byKind_61 : decode cX5_byKind 61 = .ok (.getfield 29, 3) := by decide +kernel
theorem dX5_byKind_64 : decode cX5_byKind 64 = .ok (.iload_n 1, 1) := by decide +kernel
theorem dX5_byKind_65 : decode cX5_byKind 65 = .ok (.iaload, 1) := by decide +kernel
theorem dX5_byKind_66 : decode cX5_byKind 66 = .ok (.ireturn, 1) := by decide +kernel
theorem dX5_byKind_67 : decode cX5_byKind 67 = .ok (.aload_n 0, 1) := by decide +kernel
theorem dX5_byKind_68 : decode cX5_byKind 68 = .ok (.getfield 29, 3) := by decide +kernel
theorem dX5_byKind_71 : decode cX5_byKind 71 = .ok (.iload_n 1, 1) := by decide +kernel
theorem dX5_byKind_72 : decode cX5_byKind 72 = .ok (.iaload, 1) := by decide +kernel
theorem dX5_byKind_73 : decode cX5_byKind 73 = .ok (.iconst 2, 1) := by decide +kernel
theorem dX5_byKind_74 : decode cX5_byKind 74 = .ok (.idiv, 1) := by decide +kernel
theorem dX5_byKind_75 : decode cX5_byKind 75 = .ok (.ireturn, 1) := by decide +kernel
theorem dX5_byKind_76 : decode cX5_byKind 76 = .ok (.aload_n 0, 1) := by decide +kernel
theorem dX5_byKind_77 : decode cX5_byKind 77 = .ok (.iload_n 1, 1) := by decide +kernel
theorem dX5_byKind_78 : decode cX5_byKind 78 = .ok (.invokevirtual 109, 3) := by decide +kernel
theorem dX5_byKind_81 : decode cX5_byKind 81 = .ok (.ireturn, 1) := by decide +kernel
theorem dX5_byKind_82 : decode cX5_byKind 82 = .ok (.aload_n 0, 1) := by decide +kernel
theorem dX5_byKind_83 : decode cX5_byKind 83 = .ok (.getfield 78, 3) := by decide +kernel
theorem dX5_byKind_86 : decode cX5_byKind 86 = .ok (.bipush 10, 2) := by decide +kernel
theorem dX5_byKind_88 : decode cX5_byKind 88 = .ok (.aload_n 0, 1) := by decide +kernel
theorem dX5_byKind_89 : decode cX5_byKind 89 = .ok (.getfield 20, 3) := by decide +kernel
theorem dX5_byKind_92 : decode cX5_byKind 92 = .ok (.iload_n 1, 1) := by decide +kernel
theorem dX5_byKind_93 : decode cX5_byKind 93 = .ok (.iaload, 1) := by decide +kernel
theorem dX5_byKind_94 : decode cX5_byKind 94 = .ok (.imul, 1) := by decide +kernel
theorem dX5_byKind_95 : decode cX5_byKind 95 = .ok (.if_icmp .ge 11, 3) := by decide +kernel
theorem dX5_byKind_98 : decode cX5_byKind 98 = .ok (.aload_n 0, 1) := by decide +kernel
theorem dX5_byKind_99 : decode cX5_byKind 99 = .ok (.iload_n 1, 1) := by decide +kernel
theorem dX5_byKind_100 : decode cX5_byKind 100 = .ok (.invokevirtual 109, 3) := by decide +kernel
theorem dX5_byKind_103 : decode cX5_byKind 103 = .ok (.goto 4, 3) := by decide +kernel
theorem dX5_byKind_106 : decode cX5_byKind 106 = .ok (.iconst 0, 1) := by decide +kernel
theorem dX5_byKind_107 : decode cX5_byKind 107 = .ok (.ireturn, 1) := by decide +kernel
theorem dX5_byKind_108 : decode cX5_byKind 108 = .ok (.aload_n 0, 1) := by decide +kernel
theorem dX5_byKind_109 : decode cX5_byKind 109 = .ok (.getfield 78, 3) := by decide +kernel
theorem dX5_byKind_112 : decode cX5_byKind 112 = .ok (.aload_n 0, 1) := by decide +kernel
theorem dX5_byKind_113 : decode cX5_byKind 113 = .ok (.getfield 20, 3) := by decide +kernel
theorem dX5_byKind_116 : decode cX5_byKind 116 = .ok (.iload_n 1, 1) := by decide +kernel
theorem dX5_byKind_117 : decode cX5_byKind 117 = .ok (.iaload, 1) := by decide +kernel
theorem dX5_byKind_118 : decode cX5_byKind 118 = .ok (.iconst 1, 1) := by decide +kernel
theorem dX5_byKind_119 : decode cX5_byKind 119 = .ok (.iadd, 1) := by decide +kernel
theorem dX5_byKind_120 : decode cX5_byKind 120 = .ok (.irem, 1) := by decide +kernel
theorem dX5_byKind_121 : decode cX5_byKind 121 = .ok (.ifCond .ne 14, 3) := by decide +kernel
theorem dX5_byKind_124 : decode cX5_byKind 124 = .ok (.aload_n 0, 1) := by decide +kernel
theorem dX5_byKind_125 : decode cX5_byKind 125 = .ok (.getfield 29, 3) := by decide +kernel
theorem dX5_byKind_128 : decode cX5_byKind 128 = .ok (.iload_n 1, 1) := by decide +kernel
theorem dX5_byKind_129 : decode cX5_byKind 129 = .ok (.iaload, 1) := by decide +kernel
theorem dX5_byKind_130 : decode cX5_byKind 130 = .ok (.iconst 2, 1) := by decide +kernel
theorem dX5_byKind_131 : decode cX5_byKind 131 = .ok (.idiv, 1) := by decide +kernel
theorem dX5_byKind_132 : decode cX5_byKind 132 = .ok (.goto 4, 3) := by decide +kernel
theorem dX5_byKind_135 : decode cX5_byKind 135 = .ok (.iconst 0, 1) := by decide +kernel
theorem dX5_byKind_136 : decode cX5_byKind 136 = .ok (.ireturn, 1) := by decide +kernel
theorem dX5_byKind_137 : decode cX5_byKind 137 = .ok (.iconst 0, 1) := by decide +kernel
theorem dX5_byKind_138 : decode cX5_byKind 138 = .ok (.ireturn, 1) := by decide +kernel
theorem dX5_giveByKind_0 : decode cX5_giveByKind 0 = .ok (.aload_n 0, 1) := by decide +kernel
theorem dX5_giveByKind_1 : decode cX5_giveByKind 1 = .ok (.iload_n 1, 1) := by decide +kernel
theorem dX5_giveByKind_2 : decode cX5_giveByKind 2 = .ok (.invokevirtual 112, 3) := by decide +kernel
theorem dX5_giveByKind_5 : decode cX5_giveByKind 5 = .ok (.istore_n 2, 1) := by decide +kernel
theorem dX5_giveByKind_6 : decode cX5_giveByKind 6 = .ok (.iload_n 2, 1) := by decide +kernel
theorem dX5_giveByKind_7 : decode cX5_giveByKind 7 = .ok (.ifCond .le 29, 3) := by decide +kernel
theorem dX5_giveByKind_10 : decode cX5_giveByKind 10 = .ok (.aload_n 0, 1) := by decide +kernel
theorem dX5_giveByKind_11 : decode cX5_giveByKind 11 = .ok (.iload_n 1, 1) := by decide +kernel
theorem dX5_giveByKind_12 : decode cX5_giveByKind 12 = .ok (.aload_n 0, 1) := by decide +kernel
theorem dX5_giveByKind_13 : decode cX5_giveByKind 13 = .ok (.iload_n 1, 1) := by decide +kernel
theorem dX5_giveByKind_14 : decode cX5_giveByKind 14 = .ok (.invokevirtual 105, 3) := by decide +kernel
theorem dX5_giveByKind_17 : decode cX5_giveByKind 17 = .ok (.bipush 9, 2) := by decide +kernel
theorem dX5_giveByKind_19 : decode cX5_giveByKind 19 = .ok (.if_icmp .ne 8, 3) := by decide +kernel
theorem dX5_giveByKind_22 : decode cX5_giveByKind 22 = .ok (.bipush 6, 2) := by decide +kernel
theorem dX5_giveByKind_24 : decode cX5_giveByKind 24 = .ok (.goto 8, 3) := by decide +kernel
theorem dX5_giveByKind_27 : decode cX5_giveByKind 27 = .ok (.aload_n 0, 1) := by decide +kernel
theorem dX5_giveByKind_28 : decode cX5_giveByKind 28 = .ok (.iload_n 1, 1) := by decide +kernel
theorem dX5_giveByKind_29 : decode cX5_giveByKind 29 = .ok (.invokevirtual 105, 3) := by decide +kernel
theorem dX5_giveByKind_32 : decode cX5_giveByKind 32 = .ok (.iload_n 2, 1) := by decide +kernel
theorem dX5_giveByKind_33 : decode cX5_giveByKind 33 = .ok (.invokevirtual 115, 3) := by decide +kernel
theorem dX5_giveByKind_36 : decode cX5_giveByKind 36 = .ok (.return_, 1) := by decide +kernel
theorem dX5_endDay_0 : decode cX5_endDay 0 = .ok (.iconst 0, 1) := by decide +kernel
theorem dX5_endDay_1 : decode cX5_endDay 1 = .ok (.istore_n 1, 1) := by decide +kernel
theorem dX5_endDay_2 : decode cX5_endDay 2 = .ok (.iload_n 1, 1) := by decide +kernel
theorem dX5_endDay_3 : decode cX5_endDay 3 = .ok (.aload_n 0, 1) := by decide +kernel
theorem dX5_endDay_4 : decode cX5_endDay 4 = .ok (.getfield 71, 3) := by decide +kernel
theorem dX5_endDay_7 : decode cX5_endDay 7 = .ok (.if_icmp .ge 71, 3) := by decide +kernel
theorem dX5_endDay_10 : decode cX5_endDay 10 = .ok (.aload_n 0, 1) := by decide +kernel
theorem dX5_endDay_11 : decode cX5_endDay 11 = .ok (.aload_n 0, 1) := by decide +kernel
theorem dX5_endDay_12 : decode cX5_endDay 12 = .ok (.getfield 78, 3) := by decide +kernel
theorem dX5_endDay_15 : decode cX5_endDay 15 = .ok (.iload_n 1, 1) := by decide +kernel
theorem dX5_endDay_16 : decode cX5_endDay 16 = .ok (.invokevirtual 102, 3) := by decide +kernel
theorem dX5_endDay_19 : decode cX5_endDay 19 = .ok (.aload_n 0, 1) := by decide +kernel
theorem dX5_endDay_20 : decode cX5_endDay 20 = .ok (.getfield 23, 3) := by decide +kernel
theorem dX5_endDay_23 : decode cX5_endDay 23 = .ok (.iload_n 1, 1) := by decide +kernel
theorem dX5_endDay_24 : decode cX5_endDay 24 = .ok (.iaload, 1) := by decide +kernel
theorem dX5_endDay_25 : decode cX5_endDay 25 = .ok (.iadd, 1) := by decide +kernel
theorem dX5_endDay_26 : decode cX5_endDay 26 = .ok (.istore_n 2, 1) := by decide +kernel
theorem dX5_endDay_27 : decode cX5_endDay 27 = .ok (.aload_n 0, 1) := by decide +kernel
theorem dX5_endDay_28 : decode cX5_endDay 28 = .ok (.getfield 38, 3) := by decide +kernel
theorem dX5_endDay_31 : decode cX5_endDay 31 = .ok (.iload_n 1, 1) := by decide +kernel
theorem dX5_endDay_32 : decode cX5_endDay 32 = .ok (.aload_n 0, 1) := by decide +kernel
theorem dX5_endDay_33 : decode cX5_endDay 33 = .ok (.iload_n 1, 1) := by decide +kernel
theorem dX5_endDay_34 : decode cX5_endDay 34 = .ok (.invokevirtual 119, 3) := by decide +kernel
theorem dX5_endDay_37 : decode cX5_endDay 37 = .ok (.iload_n 2, 1) := by decide +kernel
theorem dX5_endDay_38 : decode cX5_endDay 38 = .ok (.invokestatic 99, 3) := by decide +kernel
theorem dX5_endDay_41 : decode cX5_endDay 41 = .ok (.sipush 9999, 3) := by decide +kernel
theorem dX5_endDay_44 : decode cX5_endDay 44 = .ok (.aload_n 0, 1) := by decide +kernel
theorem dX5_endDay_45 : decode cX5_endDay 45 = .ok (.getfield 29, 3) := by decide +kernel
theorem dX5_endDay_48 : decode cX5_endDay 48 = .ok (.iload_n 1, 1) := by decide +kernel
theorem dX5_endDay_49 : decode cX5_endDay 49 = .ok (.iaload, 1) := by decide +kernel
theorem dX5_endDay_50 : decode cX5_endDay 50 = .ok (.isub, 1) := by decide +kernel
theorem dX5_endDay_51 : decode cX5_endDay 51 = .ok (.invokestatic 99, 3) := by decide +kernel
theorem dX5_endDay_54 : decode cX5_endDay 54 = .ok (.iastore, 1) := by decide +kernel
theorem dX5_endDay_55 : decode cX5_endDay 55 = .ok (.aload_n 0, 1) := by decide +kernel
theorem dX5_endDay_56 : decode cX5_endDay 56 = .ok (.dup, 1) := by decide +kernel
theorem dX5_endDay_57 : decode cX5_endDay 57 = .ok (.getfield 122, 3) := by decide +kernel
theorem dX5_endDay_60 : decode cX5_endDay 60 = .ok (.iload_n 2, 1) := by decide +kernel
theorem dX5_endDay_61 : decode cX5_endDay 61 = .ok (.aload_n 0, 1) := by decide +kernel
theorem dX5_endDay_62 : decode cX5_endDay 62 = .ok (.getfield 38, 3) := by decide +kernel
theorem dX5_endDay_65 : decode cX5_endDay 65 = .ok (.iload_n 1, 1) := by decide +kernel
theorem dX5_endDay_66 : decode cX5_endDay 66 = .ok (.iaload, 1) := by decide +kernel
theorem dX5_endDay_67 : decode cX5_endDay 67 = .ok (.isub, 1) := by decide +kernel
theorem dX5_endDay_68 : decode cX5_endDay 68 = .ok (.iadd, 1) := by decide +kernel
theorem dX5_endDay_69 : decode cX5_endDay 69 = .ok (.putfield 122, 3) := by decide +kernel
theorem dX5_endDay_72 : decode cX5_endDay 72 = .ok (.iinc 1 1, 3) := by decide +kernel
theorem dX5_endDay_75 : decode cX5_endDay 75 = .ok (.goto (-73), 3) := by decide +kernel
theorem dX5_endDay_78 : decode cX5_endDay 78 = .ok (.iconst 0, 1) := by decide +kernel
theorem dX5_endDay_79 : decode cX5_endDay 79 = .ok (.istore_n 1, 1) := by decide +kernel
theorem dX5_endDay_80 : decode cX5_endDay 80 = .ok (.iload_n 1, 1) := by decide +kernel
theorem dX5_endDay_81 : decode cX5_endDay 81 = .ok (.aload_n 0, 1) := by decide +kernel
theorem dX5_endDay_82 : decode cX5_endDay 82 = .ok (.getfield 71, 3) := by decide +kernel
theorem dX5_endDay_85 : decode cX5_endDay 85 = .ok (.if_icmp .ge 24, 3) := by decide +kernel
theorem dX5_endDay_88 : decode cX5_endDay 88 = .ok (.aload_n 0, 1) := by decide +kernel
theorem dX5_endDay_89 : decode cX5_endDay 89 = .ok (.getfield 29, 3) := by decide +kernel
theorem dX5_endDay_92 : decode cX5_endDay 92 = .ok (.iload_n 1, 1) := by decide +kernel
theorem dX5_endDay_93 : decode cX5_endDay 93 = .ok (.dup2, 1) := by decide +kernel
theorem dX5_endDay_94 : decode cX5_endDay 94 = .ok (.iaload, 1) := by decide +kernel
theorem dX5_endDay_95 : decode cX5_endDay 95 = .ok (.aload_n 0, 1) := by decide +kernel
theorem dX5_endDay_96 : decode cX5_endDay 96 = .ok (.getfield 38, 3) := by decide +kernel
theorem dX5_endDay_99 : decode cX5_endDay 99 = .ok (.iload_n 1, 1) := by decide +kernel
theorem dX5_endDay_100 : decode cX5_endDay 100 = .ok (.iaload, 1) := by decide +kernel
theorem dX5_endDay_101 : decode cX5_endDay 101 = .ok (.iadd, 1) := by decide +kernel
theorem dX5_endDay_102 : decode cX5_endDay 102 = .ok (.iastore, 1) := by decide +kernel
theorem dX5_endDay_103 : decode cX5_endDay 103 = .ok (.iinc 1 1, 3) := by decide +kernel
theorem dX5_endDay_106 : decode cX5_endDay 106 = .ok (.goto (-26), 3) := by decide +kernel
theorem dX5_endDay_109 : decode cX5_endDay 109 = .ok (.aload_n 0, 1) := by decide +kernel
theorem dX5_endDay_110 : decode cX5_endDay 110 = .ok (.dup, 1) := by decide +kernel
theorem dX5_endDay_111 : decode cX5_endDay 111 = .ok (.getfield 78, 3) := by decide +kernel
theorem dX5_endDay_114 : decode cX5_endDay 114 = .ok (.iconst 1, 1) := by decide +kernel
theorem dX5_endDay_115 : decode cX5_endDay 115 = .ok (.iadd, 1) := by decide +kernel
theorem dX5_endDay_116 : decode cX5_endDay 116 = .ok (.putfield 78, 3) := by decide +kernel
theorem dX5_endDay_119 : decode cX5_endDay 119 = .ok (.iconst 0, 1) := by decide +kernel
theorem dX5_endDay_120 : decode cX5_endDay 120 = .ok (.istore_n 1, 1) := by decide +kernel
theorem dX5_endDay_121 : decode cX5_endDay 121 = .ok (.iload_n 1, 1) := by decide +kernel
theorem dX5_endDay_122 : decode cX5_endDay 122 = .ok (.bipush 42, 2) := by decide +kernel
theorem dX5_endDay_124 : decode cX5_endDay 124 = .ok (.if_icmp .ge 27, 3) := by decide +kernel
theorem dX5_endDay_127 : decode cX5_endDay 127 = .ok (.aload_n 0, 1) := by decide +kernel
theorem dX5_endDay_128 : decode cX5_endDay 128 = .ok (.getfield 32, 3) := by decide +kernel
theorem dX5_endDay_131 : decode cX5_endDay 131 = .ok (.bipush 42, 2) := by decide +kernel
theorem dX5_endDay_133 : decode cX5_endDay 133 = .ok (.aload_n 0, 1) := by decide +kernel
theorem dX5_endDay_134 : decode cX5_endDay 134 = .ok (.getfield 78, 3) := by decide +kernel
theorem dX5_endDay_137 : decode cX5_endDay 137 = .ok (.bipush 11, 2) := by decide +kernel
theorem dX5_endDay_139 : decode cX5_endDay 139 = .ok (.irem, 1) := by decide +kernel
theorem dX5_endDay_140 : decode cX5_endDay 140 = .ok (.imul, 1) := by decide +kernel
theorem dX5_endDay_141 : decode cX5_endDay 141 = .ok (.iload_n 1, 1) := by decide +kernel
theorem dX5_endDay_142 : decode cX5_endDay 142 = .ok (.iadd, 1) := by decide +kernel
theorem dX5_endDay_143 : decode cX5_endDay 143 = .ok (.iconst 0, 1) := by decide +kernel
theorem dX5_endDay_144 : decode cX5_endDay 144 = .ok (.iastore, 1) := by decide +kernel
theorem dX5_endDay_145 : decode cX5_endDay 145 = .ok (.iinc 1 1, 3) := by decide +kernel
theorem dX5_endDay_148 : decode cX5_endDay 148 = .ok (.goto (-27), 3) := by decide +kernel
theorem dX5_endDay_151 : decode cX5_endDay 151 = .ok (.return_, 1) := by decide +kernel
theorem dX5_dayOn_0 : decode cX5_dayOn 0 = .ok (.iconst 0, 1) := by decide +kernel
theorem dX5_dayOn_1 : decode cX5_dayOn 1 = .ok (.istore_n 1, 1) := by decide +kernel
theorem dX5_dayOn_2 : decode cX5_dayOn 2 = .ok (.iload_n 1, 1) := by decide +kernel
theorem dX5_dayOn_3 : decode cX5_dayOn 3 = .ok (.aload_n 0, 1) := by decide +kernel
theorem dX5_dayOn_4 : decode cX5_dayOn 4 = .ok (.getfield 71, 3) := by decide +kernel
theorem dX5_dayOn_7 : decode cX5_dayOn 7 = .ok (.if_icmp .ge 14, 3) := by decide +kernel
theorem dX5_dayOn_10 : decode cX5_dayOn 10 = .ok (.aload_n 0, 1) := by decide +kernel
theorem dX5_dayOn_11 : decode cX5_dayOn 11 = .ok (.iload_n 1, 1) := by decide +kernel
theorem dX5_dayOn_12 : decode cX5_dayOn 12 = .ok (.invokevirtual 125, 3) := by decide +kernel
theorem dX5_dayOn_15 : decode cX5_dayOn 15 = .ok (.iinc 1 1, 3) := by decide +kernel
theorem dX5_dayOn_18 : decode cX5_dayOn 18 = .ok (.goto (-16), 3) := by decide +kernel
theorem dX5_dayOn_21 : decode cX5_dayOn 21 = .ok (.aload_n 0, 1) := by decide +kernel
theorem dX5_dayOn_22 : decode cX5_dayOn 22 = .ok (.invokevirtual 129, 3) := by decide +kernel
theorem dX5_dayOn_25 : decode cX5_dayOn 25 = .ok (.return_, 1) := by decide +kernel
theorem dX5_carry_0 : decode cX5_carry 0 = .ok (.aload_n 0, 1) := by decide +kernel
theorem dX5_carry_1 : decode cX5_carry 1 = .ok (.getfield 132, 3) := by decide +kernel
theorem dX5_carry_4 : decode cX5_carry 4 = .ok (.ifCond .eq 13, 3) := by decide +kernel
theorem dX5_carry_7 : decode cX5_carry 7 = .ok (.aload_n 0, 1) := by decide +kernel
theorem dX5_carry_8 : decode cX5_carry 8 = .ok (.getfield 136, 3) := by decide +kernel
theorem dX5_carry_11 : decode cX5_carry 11 = .ok (.aload_n 0, 1) := by decide +kernel
theorem dX5_carry_12 : decode cX5_carry 12 = .ok (.getfield 139, 3) := by decide +kernel
theorem dX5_carry_15 : decode cX5_carry 15 = .ok (.iload_n 1, 1) := by decide +kernel
theorem dX5_carry_16 : decode cX5_carry 16 = .ok (.iastore, 1) := by decide +kernel
theorem dX5_carry_17 : decode cX5_carry 17 = .ok (.aload_n 0, 1) := by decide +kernel
theorem dX5_carry_18 : decode cX5_carry 18 = .ok (.dup, 1) := by decide +kernel
theorem dX5_carry_19 : decode cX5_carry 19 = .ok (.getfield 139, 3) := by decide +kernel
theorem dX5_carry_22 : decode cX5_carry 22 = .ok (.iconst 1, 1) := by decide +kernel
theorem dX5_carry_23 : decode cX5_carry 23 = .ok (.iadd, 1) := by decide +kernel
theorem dX5_carry_24 : decode cX5_carry 24 = .ok (.putfield 139, 3) := by decide +kernel
theorem dX5_carry_27 : decode cX5_carry 27 = .ok (.aload_n 0, 1) := by decide +kernel
theorem dX5_carry_28 : decode cX5_carry 28 = .ok (.getfield 136, 3) := by decide +kernel
theorem dX5_carry_31 : decode cX5_carry 31 = .ok (.aload_n 0, 1) := by decide +kernel
theorem dX5_carry_32 : decode cX5_carry 32 = .ok (.getfield 139, 3) := by decide +kernel
theorem dX5_carry_35 : decode cX5_carry 35 = .ok (.iconst 1, 1) := by decide +kernel
theorem dX5_carry_36 : decode cX5_carry 36 = .ok (.isub, 1) := by decide +kernel
theorem dX5_carry_37 : decode cX5_carry 37 = .ok (.iaload, 1) := by decide +kernel
theorem dX5_carry_38 : decode cX5_carry 38 = .ok (.ireturn, 1) := by decide +kernel
theorem dX5_carryDays_0 : decode cX5_carryDays 0 = .ok (.aload_n 0, 1) := by decide +kernel
theorem dX5_carryDays_1 : decode cX5_carryDays 1 = .ok (.aload_n 1, 1) := by decide +kernel
theorem dX5_carryDays_2 : decode cX5_carryDays 2 = .ok (.putfield 136, 3) := by decide +kernel
theorem dX5_carryDays_5 : decode cX5_carryDays 5 = .ok (.aload_n 0, 1) := by decide +kernel
theorem dX5_carryDays_6 : decode cX5_carryDays 6 = .ok (.iload_n 2, 1) := by decide +kernel
theorem dX5_carryDays_7 : decode cX5_carryDays 7 = .ok (.putfield 132, 3) := by decide +kernel
theorem dX5_carryDays_10 : decode cX5_carryDays 10 = .ok (.aload_n 0, 1) := by decide +kernel
theorem dX5_carryDays_11 : decode cX5_carryDays 11 = .ok (.iconst 0, 1) := by decide +kernel
theorem dX5_carryDays_12 : decode cX5_carryDays 12 = .ok (.putfield 139, 3) := by decide +kernel
theorem dX5_carryDays_15 : decode cX5_carryDays 15 = .ok (.aload_n 0, 1) := by decide +kernel
theorem dX5_carryDays_16 : decode cX5_carryDays 16 = .ok (.aload_n 0, 1) := by decide +kernel
theorem dX5_carryDays_17 : decode cX5_carryDays 17 = .ok (.aload_n 0, 1) := by decide +kernel
theorem dX5_carryDays_18 : decode cX5_carryDays 18 = .ok (.getfield 78, 3) := by decide +kernel
theorem dX5_carryDays_21 : decode cX5_carryDays 21 = .ok (.invokevirtual 142, 3) := by decide +kernel
theorem dX5_carryDays_24 : decode cX5_carryDays 24 = .ok (.putfield 78, 3) := by decide +kernel
theorem dX5_carryDays_27 : decode cX5_carryDays 27 = .ok (.aload_n 0, 1) := by decide +kernel
theorem dX5_carryDays_28 : decode cX5_carryDays 28 = .ok (.aload_n 0, 1) := by decide +kernel
theorem dX5_carryDays_29 : decode cX5_carryDays 29 = .ok (.aload_n 0, 1) := by decide +kernel
theorem dX5_carryDays_30 : decode cX5_carryDays 30 = .ok (.getfield 96, 3) := by decide +kernel
theorem dX5_carryDays_33 : decode cX5_carryDays 33 = .ok (.invokevirtual 142, 3) := by decide +kernel
theorem dX5_carryDays_36 : decode cX5_carryDays 36 = .ok (.putfield 96, 3) := by decide +kernel
theorem dX5_carryDays_39 : decode cX5_carryDays 39 = .ok (.aload_n 0, 1) := by decide +kernel
theorem dX5_carryDays_40 : decode cX5_carryDays 40 = .ok (.aload_n 0, 1) := by decide +kernel
theorem dX5_carryDays_41 : decode cX5_carryDays 41 = .ok (.aload_n 0, 1) := by decide +kernel
theorem dX5_carryDays_42 : decode cX5_carryDays 42 = .ok (.getfield 85, 3) := by decide +kernel
theorem dX5_carryDays_45 : decode cX5_carryDays 45 = .ok (.invokevirtual 142, 3) := by decide +kernel
theorem dX5_carryDays_48 : decode cX5_carryDays 48 = .ok (.putfield 85, 3) := by decide +kernel
theorem dX5_carryDays_51 : decode cX5_carryDays 51 = .ok (.aload_n 0, 1) := by decide +kernel
theorem dX5_carryDays_52 : decode cX5_carryDays 52 = .ok (.aload_n 0, 1) := by decide +kernel
theorem dX5_carryDays_53 : decode cX5_carryDays 53 = .ok (.aload_n 0, 1) := by decide +kernel
theorem dX5_carryDays_54 : decode cX5_carryDays 54 = .ok (.getfield 122, 3) := by decide +kernel
theorem dX5_carryDays_57 : decode cX5_carryDays 57 = .ok (.invokevirtual 142, 3) := by decide +kernel
theorem dX5_carryDays_60 : decode cX5_carryDays 60 = .ok (.putfield 122, 3) := by decide +kernel
theorem dX5_carryDays_63 : decode cX5_carryDays 63 = .ok (.iconst 0, 1) := by decide +kernel
theorem dX5_carryDays_64 : decode cX5_carryDays 64 = .ok (.istore_n 3, 1) := by decide +kernel
theorem dX5_carryDays_65 : decode cX5_carryDays 65 = .ok (.iload_n 3, 1) := by decide +kernel
theorem dX5_carryDays_66 : decode cX5_carryDays 66 = .ok (.bipush 6, 2) := by decide +kernel
theorem dX5_carryDays_68 : decode cX5_carryDays 68 = .ok (.if_icmp .ge 25, 3) := by decide +kernel
theorem dX5_carryDays_71 : decode cX5_carryDays 71 = .ok (.aload_n 0, 1) := by decide +kernel
theorem dX5_carryDays_72 : decode cX5_carryDays 72 = .ok (.getfield 29, 3) := by decide +kernel
theorem dX5_carryDays_75 : decode cX5_carryDays 75 = .ok (.iload_n 3, 1) := by decide +kernel
theorem dX5_carryDays_76 : decode cX5_carryDays 76 = .ok (.aload_n 0, 1) := by decide +kernel
theorem dX5_carryDays_77 : decode cX5_carryDays 77 = .ok (.aload_n 0, 1) := by decide +kernel
theorem dX5_carryDays_78 : decode cX5_carryDays 78 = .ok (.getfield 29, 3) := by decide +kernel
theorem dX5_carryDays_81 : decode cX5_carryDays 81 = .ok (.iload_n 3, 1) := by decide +kernel
theorem dX5_carryDays_82 : decode cX5_carryDays 82 = .ok (.iaload, 1) := by decide +kernel
theorem dX5_carryDays_83 : decode cX5_carryDays 83 = .ok (.invokevirtual 142, 3) := by decide +kernel
theorem dX5_carryDays_86 : decode cX5_carryDays 86 = .ok (.iastore, 1) := by decide +kernel
theorem dX5_carryDays_87 : decode cX5_carryDays 87 = .ok (.iinc 3 1, 3) := by decide +kernel
theorem dX5_carryDays_90 : decode cX5_carryDays 90 = .ok (.goto (-25), 3) := by decide +kernel
theorem dX5_carryDays_93 : decode cX5_carryDays 93 = .ok (.iconst 0, 1) := by decide +kernel
theorem dX5_carryDays_94 : decode cX5_carryDays 94 = .ok (.istore_n 3, 1) := by decide +kernel
theorem dX5_carryDays_95 : decode cX5_carryDays 95 = .ok (.iload_n 3, 1) := by decide +kernel
theorem dX5_carryDays_96 : decode cX5_carryDays 96 = .ok (.sipush 462, 3) := by decide +kernel
theorem dX5_carryDays_99 : decode cX5_carryDays 99 = .ok (.if_icmp .ge 25, 3) := by decide +kernel
theorem dX5_carryDays_102 : decode cX5_carryDays 102 = .ok (.aload_n 0, 1) := by decide +kernel
theorem dX5_carryDays_103 : decode cX5_carryDays 103 = .ok (.getfield 32, 3) := by decide +kernel
theorem dX5_carryDays_106 : decode cX5_carryDays 106 = .ok (.iload_n 3, 1) := by decide +kernel
theorem dX5_carryDays_107 : decode cX5_carryDays 107 = .ok (.aload_n 0, 1) := by decide +kernel
theorem dX5_carryDays_108 : decode cX5_carryDays 108 = .ok (.aload_n 0, 1) := by decide +kernel
theorem dX5_carryDays_109 : decode cX5_carryDays 109 = .ok (.getfield 32, 3) := by decide +kernel
theorem dX5_carryDays_112 : decode cX5_carryDays 112 = .ok (.iload_n 3, 1) := by decide +kernel
theorem dX5_carryDays_113 : decode cX5_carryDays 113 = .ok (.iaload, 1) := by decide +kernel
theorem dX5_carryDays_114 : decode cX5_carryDays 114 = .ok (.invokevirtual 142, 3) := by decide +kernel
theorem dX5_carryDays_117 : decode cX5_carryDays 117 = .ok (.iastore, 1) := by decide +kernel
theorem dX5_carryDays_118 : decode cX5_carryDays 118 = .ok (.iinc 3 1, 3) := by decide +kernel
theorem dX5_carryDays_121 : decode cX5_carryDays 121 = .ok (.goto (-26), 3) := by decide +kernel
theorem dX5_carryDays_124 : decode cX5_carryDays 124 = .ok (.return_, 1) := by decide +kernel
theorem dX5_open_0 : decode cX5_open 0 = .ok (.aload_n 0, 1) := by decide +kernel
theorem dX5_open_1 : decode cX5_open 1 = .ok (.aload_n 0, 1) := by decide +kernel
theorem dX5_open_2 : decode cX5_open 2 = .ok (.getfield 41, 3) := by decide +kernel
theorem dX5_open_5 : decode cX5_open 5 = .ok (.iconst 1, 1) := by decide +kernel
theorem dX5_open_6 : decode cX5_open 6 = .ok (.invokevirtual 145, 3) := by decide +kernel
theorem dX5_open_9 : decode cX5_open 9 = .ok (.return_, 1) := by decide +kernel
theorem dX5_close_0 : decode cX5_close 0 = .ok (.aload_n 0, 1) := by decide +kernel
theorem dX5_close_1 : decode cX5_close 1 = .ok (.aload_n 0, 1) := by decide +kernel
theorem dX5_close_2 : decode cX5_close 2 = .ok (.getfield 41, 3) := by decide +kernel
theorem dX5_close_5 : decode cX5_close 5 = .ok (.iconst 0, 1) := by decide +kernel
theorem dX5_close_6 : decode cX5_close 6 = .ok (.invokevirtual 145, 3) := by decide +kernel
theorem dX5_close_9 : decode cX5_close 9 = .ok (.return_, 1) := by decide +kernel
theorem dX5_run_0 : decode cX5_run 0 = .ok (.iconst 0, 1) := by decide +kernel
theorem dX5_run_1 : decode cX5_run 1 = .ok (.istore_n 2, 1) := by decide +kernel
theorem dX5_run_2 : decode cX5_run 2 = .ok (.iload_n 2, 1) := by decide +kernel
theorem dX5_run_3 : decode cX5_run 3 = .ok (.iload_n 1, 1) := by decide +kernel
theorem dX5_run_4 : decode cX5_run 4 = .ok (.if_icmp .ge 13, 3) := by decide +kernel
theorem dX5_run_7 : decode cX5_run 7 = .ok (.aload_n 0, 1) := by decide +kernel
theorem dX5_run_8 : decode cX5_run 8 = .ok (.invokevirtual 149, 3) := by decide +kernel
theorem dX5_run_11 : decode cX5_run 11 = .ok (.iinc 2 1, 3) := by decide +kernel
theorem dX5_run_14 : decode cX5_run 14 = .ok (.goto (-12), 3) := by decide +kernel
theorem dX5_run_17 : decode cX5_run 17 = .ok (.return_, 1) := by decide +kernel
theorem dX5_all_0 : decode cX5_all 0 = .ok (.iconst 0, 1) := by decide +kernel
theorem dX5_all_1 : decode cX5_all 1 = .ok (.istore_n 1, 1) := by decide +kernel
theorem dX5_all_2 : decode cX5_all 2 = .ok (.iconst 0, 1) := by decide +kernel
theorem dX5_all_3 : decode cX5_all 3 = .ok (.istore_n 2, 1) := by decide +kernel
theorem dX5_all_4 : decode cX5_all 4 = .ok (.iload_n 2, 1) := by decide +kernel
theorem dX5_all_5 : decode cX5_all 5 = .ok (.aload_n 0, 1) := by decide +kernel
theorem dX5_all_6 : decode cX5_all 6 = .ok (.getfield 71, 3) := by decide +kernel
theorem dX5_all_9 : decode cX5_all 9 = .ok (.if_icmp .ge 18, 3) := by decide +kernel
theorem dX5_all_12 : decode cX5_all 12 = .ok (.iload_n 1, 1) := by decide +kernel
theorem dX5_all_13 : decode cX5_all 13 = .ok (.aload_n 0, 1) := by decide +kernel
theorem dX5_all_14 : decode cX5_all 14 = .ok (.getfield 29, 3) := by decide +kernel
theorem dX5_all_17 : decode cX5_all 17 = .ok (.iload_n 2, 1) := by decide +kernel
theorem dX5_all_18 : decode cX5_all 18 = .ok (.iaload, 1) := by decide +kernel
theorem dX5_all_19 : decode cX5_all 19 = .ok (.iadd, 1) := by decide +kernel
theorem dX5_all_20 : decode cX5_all 20 = .ok (.istore_n 1, 1) := by decide +kernel
theorem dX5_all_21 : decode cX5_all 21 = .ok (.iinc 2 1, 3) := by decide +kernel
theorem dX5_all_24 : decode cX5_all 24 = .ok (.goto (-20), 3) := by decide +kernel
theorem dX5_all_27 : decode cX5_all 27 = .ok (.iload_n 1, 1) := by decide +kernel
theorem dX5_all_28 : decode cX5_all 28 = .ok (.ireturn, 1) := by decide +kernel
theorem dX5_feed_0 : decode cX5_feed 0 = .ok (.aload_n 0, 1) := by decide +kernel
theorem dX5_feed_1 : decode cX5_feed 1 = .ok (.iconst 0, 1) := by decide +kernel
theorem dX5_feed_2 : decode cX5_feed 2 = .ok (.putfield 68, 3) := by decide +kernel
theorem dX5_feed_5 : decode cX5_feed 5 = .ok (.iload_n 1, 1) := by decide +kernel
theorem dX5_feed_6 : decode cX5_feed 6 = .ok (.ifCond .ge 10, 3) := by decide +kernel
theorem dX5_feed_9 : decode cX5_feed 9 = .ok (.aload_n 0, 1) := by decide +kernel
theorem dX5_feed_10 : decode cX5_feed 10 = .ok (.bipush (-4), 2) := by decide +kernel
theorem dX5_feed_12 : decode cX5_feed 12 = .ok (.invokevirtual 152, 3) := by decide +kernel
theorem dX5_feed_15 : decode cX5_feed 15 = .ok (.ireturn, 1) := by decide +kernel
theorem dX5_feed_16 : decode cX5_feed 16 = .ok (.iload_n 1, 1) := by decide +kernel
theorem dX5_feed_17 : decode cX5_feed 17 = .ok (.sipush 255, 3) := by decide +kernel
theorem dX5_feed_20 : decode cX5_feed 20 = .ok (.if_icmp .gt 12, 3) := by decide +kernel
theorem dX5_feed_23 : decode cX5_feed 23 = .ok (.aload_n 0, 1) := by decide +kernel
theorem dX5_feed_24 : decode cX5_feed 24 = .ok (.getfield 155, 3) := by decide +kernel
theorem dX5_feed_27 : decode cX5_feed 27 = .ok (.bipush 64, 2) := by decide +kernel
theorem dX5_feed_29 : decode cX5_feed 29 = .ok (.if_icmp .ne 10, 3) := by decide +kernel
theorem dX5_feed_32 : decode cX5_feed 32 = .ok (.aload_n 0, 1) := by decide +kernel
theorem dX5_feed_33 : decode cX5_feed 33 = .ok (.bipush (-6), 2) := by decide +kernel
theorem dX5_feed_35 : decode cX5_feed 35 = .ok (.invokevirtual 152, 3) := by decide +kernel
theorem dX5_feed_38 : decode cX5_feed 38 = .ok (.ireturn, 1) := by decide +kernel
theorem dX5_feed_39 : decode cX5_feed 39 = .ok (.aload_n 0, 1) := by decide +kernel
theorem dX5_feed_40 : decode cX5_feed 40 = .ok (.getfield 44, 3) := by decide +kernel
theorem dX5_feed_43 : decode cX5_feed 43 = .ok (.aload_n 0, 1) := by decide +kernel
theorem dX5_feed_44 : decode cX5_feed 44 = .ok (.getfield 155, 3) := by decide +kernel
theorem dX5_feed_47 : decode cX5_feed 47 = .ok (.iload_n 1, 1) := by decide +kernel
theorem dX5_feed_48 : decode cX5_feed 48 = .ok (.iastore, 1) := by decide +kernel
theorem dX5_feed_49 : decode cX5_feed 49 = .ok (.aload_n 0, 1) := by decide +kernel
theorem dX5_feed_50 : decode cX5_feed 50 = .ok (.dup, 1) := by decide +kernel
theorem dX5_feed_51 : decode cX5_feed 51 = .ok (.getfield 155, 3) := by decide +kernel
theorem dX5_feed_54 : decode cX5_feed 54 = .ok (.iconst 1, 1) := by decide +kernel
theorem dX5_feed_55 : decode cX5_feed 55 = .ok (.iadd, 1) := by decide +kernel
theorem dX5_feed_56 : decode cX5_feed 56 = .ok (.putfield 155, 3) := by decide +kernel
theorem dX5_feed_59 : decode cX5_feed 59 = .ok (.aload_n 0, 1) := by decide +kernel
theorem dX5_feed_60 : decode cX5_feed 60 = .ok (.getfield 155, 3) := by decide +kernel
theorem dX5_feed_63 : decode cX5_feed 63 = .ok (.ireturn, 1) := by decide +kernel
theorem dX5_here_0 : decode cX5_here 0 = .ok (.aload_n 0, 1) := by decide +kernel
theorem dX5_here_1 : decode cX5_here 1 = .ok (.getfield 158, 3) := by decide +kernel
theorem dX5_here_4 : decode cX5_here 4 = .ok (.aload_n 0, 1) := by decide +kernel
theorem dX5_here_5 : decode cX5_here 5 = .ok (.getfield 155, 3) := by decide +kernel
theorem dX5_here_8 : decode cX5_here 8 = .ok (.if_icmp .ge 15, 3) := by decide +kernel
theorem dX5_here_11 : decode cX5_here 11 = .ok (.aload_n 0, 1) := by decide +kernel
theorem dX5_here_12 : decode cX5_here 12 = .ok (.getfield 44, 3) := by decide +kernel
theorem dX5_here_15 : decode cX5_here 15 = .ok (.aload_n 0, 1) := by decide +kernel
theorem dX5_here_16 : decode cX5_here 16 = .ok (.getfield 158, 3) := by decide +kernel
theorem dX5_here_19 : decode cX5_here 19 = .ok (.iaload, 1) := by decide +kernel
theorem dX5_here_20 : decode cX5_here 20 = .ok (.goto 4, 3) := by decide +kernel
theorem dX5_here_23 : decode cX5_here 23 = .ok (.iconst (-1), 1) := by decide +kernel
theorem dX5_here_24 : decode cX5_here 24 = .ok (.ireturn, 1) := by decide +kernel
theorem dX5_readDigit_0 : decode cX5_readDigit 0 = .ok (.aload_n 0, 1) := by decide +kernel
theorem dX5_readDigit_1 : decode cX5_readDigit 1 = .ok (.aload_n 0, 1) := by decide +kernel
theorem dX5_readDigit_2 : decode cX5_readDigit 2 = .ok (.getfield 161, 3) := by decide +kernel
theorem dX5_readDigit_5 : decode cX5_readDigit 5 = .ok (.ifCond .ne 20, 3) := by decide +kernel
theorem dX5_readDigit_8 : decode cX5_readDigit 8 = .ok (.aload_n 0, 1) := by decide +kernel
theorem dX5_readDigit_9 : decode cX5_readDigit 9 = .ok (.invokevirtual 164, 3) := by decide +kernel
theorem dX5_readDigit_12 : decode cX5_readDigit 12 = .ok (.i2l, 1) := by decide +kernel
theorem dX5_readDigit_13 : decode cX5_readDigit 13 = .ok (.ldc2_w 168, 3) := by decide +kernel
theorem dX5_readDigit_16 : decode cX5_readDigit 16 = .ok (.ldc2_w 170, 3) := by decide +kernel
theorem dX5_readDigit_19 : decode cX5_readDigit 19 = .ok (.invokestatic 74, 3) := by decide +kernel
theorem dX5_readDigit_22 : decode cX5_readDigit 22 = .ok (.ifCond .ne 7, 3) := by decide +kernel
theorem dX5_readDigit_25 : decode cX5_readDigit 25 = .ok (.iconst 1, 1) := by decide +kernel
theorem dX5_readDigit_26 : decode cX5_readDigit 26 = .ok (.goto 4, 3) := by decide +kernel
theorem dX5_readDigit_29 : decode cX5_readDigit 29 = .ok (.iconst 0, 1) := by decide +kernel
theorem dX5_readDigit_30 : decode cX5_readDigit 30 = .ok (.putfield 161, 3) := by decide +kernel
theorem dX5_readDigit_33 : decode cX5_readDigit 33 = .ok (.aload_n 0, 1) := by decide +kernel
theorem dX5_readDigit_34 : decode cX5_readDigit 34 = .ok (.getfield 161, 3) := by decide +kernel
theorem dX5_readDigit_37 : decode cX5_readDigit 37 = .ok (.ifCond .eq 5, 3) := by decide +kernel
theorem dX5_readDigit_40 : decode cX5_readDigit 40 = .ok (.iconst 0, 1) := by decide +kernel
theorem dX5_readDigit_41 : decode cX5_readDigit 41 = .ok (.ireturn, 1) := by decide +kernel
theorem dX5_readDigit_42 : decode cX5_readDigit 42 = .ok (.aload_n 0, 1) := by decide +kernel
theorem dX5_readDigit_43 : decode cX5_readDigit 43 = .ok (.dup, 1) := by decide +kernel
theorem dX5_readDigit_44 : decode cX5_readDigit 44 = .ok (.getfield 158, 3) := by decide +kernel
theorem dX5_readDigit_47 : decode cX5_readDigit 47 = .ok (.iconst 1, 1) := by decide +kernel
theorem dX5_readDigit_48 : decode cX5_readDigit 48 = .ok (.iadd, 1) := by decide +kernel
theorem dX5_readDigit_49 : decode cX5_readDigit 49 = .ok (.putfield 158, 3) := by decide +kernel
theorem dX5_readDigit_52 : decode cX5_readDigit 52 = .ok (.aload_n 0, 1) := by decide +kernel
theorem dX5_readDigit_53 : decode cX5_readDigit 53 = .ok (.getfield 44, 3) := by decide +kernel
theorem dX5_readDigit_56 : decode cX5_readDigit 56 = .ok (.aload_n 0, 1) := by decide +kernel
theorem dX5_readDigit_57 : decode cX5_readDigit 57 = .ok (.getfield 158, 3) := by decide +kernel
theorem dX5_readDigit_60 : decode cX5_readDigit 60 = .ok (.iconst 1, 1) := by decide +kernel
theorem dX5_readDigit_61 : decode cX5_readDigit 61 = .ok (.isub, 1) := by decide +kernel
theorem dX5_readDigit_62 : decode cX5_readDigit 62 = .ok (.iaload, 1) := by decide +kernel
theorem dX5_readDigit_63 : decode cX5_readDigit 63 = .ok (.bipush 48, 2) := by decide +kernel
theorem dX5_readDigit_65 : decode cX5_readDigit 65 = .ok (.isub, 1) := by decide +kernel
theorem dX5_readDigit_66 : decode cX5_readDigit 66 = .ok (.ireturn, 1) := by decide +kernel
theorem dX5_readNumber_0 : decode cX5_readNumber 0 = .ok (.aload_n 0, 1) := by decide +kernel
theorem dX5_readNumber_1 : decode cX5_readNumber 1 = .ok (.invokevirtual 172, 3) := by decide +kernel
theorem dX5_readNumber_4 : decode cX5_readNumber 4 = .ok (.istore_n 2, 1) := by decide +kernel
theorem dX5_readNumber_5 : decode cX5_readNumber 5 = .ok (.iconst 1, 1) := by decide +kernel
theorem dX5_readNumber_6 : decode cX5_readNumber 6 = .ok (.istore_n 3, 1) := by decide +kernel
theorem dX5_readNumber_7 : decode cX5_readNumber 7 = .ok (.iload_n 3, 1) := by decide +kernel
theorem dX5_readNumber_8 : decode cX5_readNumber 8 = .ok (.iload_n 1, 1) := by decide +kernel
theorem dX5_readNumber_9 : decode cX5_readNumber 9 = .ok (.if_icmp .ge 56, 3) := by decide +kernel
theorem dX5_readNumber_12 : decode cX5_readNumber 12 = .ok (.aload_n 0, 1) := by decide +kernel
theorem dX5_readNumber_13 : decode cX5_readNumber 13 = .ok (.getfield 161, 3) := by decide +kernel
theorem dX5_readNumber_16 : decode cX5_readNumber 16 = .ok (.ifCond .ne 49, 3) := by decide +kernel
theorem dX5_readNumber_19 : decode cX5_readNumber 19 = .ok (.aload_n 0, 1) := by decide +kernel
theorem dX5_readNumber_20 : decode cX5_readNumber 20 = .ok (.invokevirtual 164, 3) := by decide +kernel
theorem dX5_readNumber_23 : decode cX5_readNumber 23 = .ok (.i2l, 1) := by decide +kernel
theorem dX5_readNumber_24 : decode cX5_readNumber 24 = .ok (.ldc2_w 168, 3) := by decide +kernel
theorem dX5_readNumber_27 : decode cX5_readNumber 27 = .ok (.ldc2_w 170, 3) := by decide +kernel
theorem dX5_readNumber_30 : decode cX5_readNumber 30 = .ok (.invokestatic 74, 3) := by decide +kernel
theorem dX5_readNumber_33 : decode cX5_readNumber 33 = .ok (.ifCond .eq 32, 3) := by decide +kernel
theorem dX5_readNumber_36 : decode cX5_readNumber 36 = .ok (.bipush 10, 2) := by decide +kernel
theorem dX5_readNumber_38 : decode cX5_readNumber 38 = .ok (.iload_n 2, 1) := by decide +kernel
theorem dX5_readNumber_39 : decode cX5_readNumber 39 = .ok (.imul, 1) := by decide +kernel
theorem dX5_readNumber_40 : decode cX5_readNumber 40 = .ok (.aload_n 0, 1) := by decide +kernel
theorem dX5_readNumber_41 : decode cX5_readNumber 41 = .ok (.invokevirtual 164, 3) := by decide +kernel
theorem dX5_readNumber_44 : decode cX5_readNumber 44 = .ok (.iadd, 1) := by decide +kernel
theorem dX5_readNumber_45 : decode cX5_readNumber 45 = .ok (.bipush 48, 2) := by decide +kernel
theorem dX5_readNumber_47 : decode cX5_readNumber 47 = .ok (.isub, 1) := by decide +kernel
theorem dX5_readNumber_48 : decode cX5_readNumber 48 = .ok (.istore_n 2, 1) := by decide +kernel
theorem dX5_readNumber_49 : decode cX5_readNumber 49 = .ok (.aload_n 0, 1) := by decide +kernel
theorem dX5_readNumber_50 : decode cX5_readNumber 50 = .ok (.dup, 1) := by decide +kernel
theorem dX5_readNumber_51 : decode cX5_readNumber 51 = .ok (.getfield 158, 3) := by decide +kernel
theorem dX5_readNumber_54 : decode cX5_readNumber 54 = .ok (.iconst 1, 1) := by decide +kernel
theorem dX5_readNumber_55 : decode cX5_readNumber 55 = .ok (.iadd, 1) := by decide +kernel
theorem dX5_readNumber_56 : decode cX5_readNumber 56 = .ok (.putfield 158, 3) := by decide +kernel
theorem dX5_readNumber_59 : decode cX5_readNumber 59 = .ok (.iinc 3 1, 3) := by decide +kernel
theorem dX5_readNumber_62 : decode cX5_readNumber 62 = .ok (.goto (-55), 3) := by decide +kernel
theorem dX5_readNumber_65 : decode cX5_readNumber 65 = .ok (.iload_n 2, 1) := by decide +kernel
theorem dX5_readNumber_66 : decode cX5_readNumber 66 = .ok (.ireturn, 1) := by decide +kernel
theorem dX5_take_0 : decode cX5_take 0 = .ok (.aload_n 0, 1) := by decide +kernel
theorem dX5_take_1 : decode cX5_take 1 = .ok (.aload_n 0, 1) := by decide +kernel
theorem dX5_take_2 : decode cX5_take 2 = .ok (.getfield 161, 3) := by decide +kernel
theorem dX5_take_5 : decode cX5_take 5 = .ok (.ifCond .ne 11, 3) := by decide +kernel
theorem dX5_take_8 : decode cX5_take 8 = .ok (.aload_n 0, 1) := by decide +kernel
theorem dX5_take_9 : decode cX5_take 9 = .ok (.invokevirtual 164, 3) := by decide +kernel
theorem dX5_take_12 : decode cX5_take 12 = .ok (.iload_n 1, 1) := by decide +kernel
theorem dX5_take_13 : decode cX5_take 13 = .ok (.if_icmp .eq 7, 3) := by decide +kernel
theorem dX5_take_16 : decode cX5_take 16 = .ok (.iconst 1, 1) := by decide +kernel
theorem dX5_take_17 : decode cX5_take 17 = .ok (.goto 4, 3) := by decide +kernel
theorem dX5_take_20 : decode cX5_take 20 = .ok (.iconst 0, 1) := by decide +kernel
theorem dX5_take_21 : decode cX5_take 21 = .ok (.putfield 161, 3) := by decide +kernel
theorem dX5_take_24 : decode cX5_take 24 = .ok (.aload_n 0, 1) := by decide +kernel
theorem dX5_take_25 : decode cX5_take 25 = .ok (.dup, 1) := by decide +kernel
theorem dX5_take_26 : decode cX5_take 26 = .ok (.getfield 158, 3) := by decide +kernel
theorem dX5_take_29 : decode cX5_take 29 = .ok (.aload_n 0, 1) := by decide +kernel
theorem dX5_take_30 : decode cX5_take 30 = .ok (.getfield 161, 3) := by decide +kernel
theorem dX5_take_33 : decode cX5_take 33 = .ok (.ifCond .eq 7, 3) := by decide +kernel
theorem dX5_take_36 : decode cX5_take 36 = .ok (.iconst 0, 1) := by decide +kernel
theorem dX5_take_37 : decode cX5_take 37 = .ok (.goto 4, 3) := by decide +kernel
theorem dX5_take_40 : decode cX5_take 40 = .ok (.iconst 1, 1) := by decide +kernel
theorem dX5_take_41 : decode cX5_take 41 = .ok (.iadd, 1) := by decide +kernel
theorem dX5_take_42 : decode cX5_take 42 = .ok (.putfield 158, 3) := by decide +kernel
theorem dX5_take_45 : decode cX5_take 45 = .ok (.return_, 1) := by decide +kernel
theorem dX5_readStatement_0 : decode cX5_readStatement 0 = .ok (.iconst 5, 1) := by decide +kernel
theorem dX5_readStatement_1 : decode cX5_readStatement 1 = .ok (.aload_n 0, 1) := by decide +kernel
theorem dX5_readStatement_2 : decode cX5_readStatement 2 = .ok (.getfield 175, 3) := by decide +kernel
theorem dX5_readStatement_5 : decode cX5_readStatement 5 = .ok (.imul, 1) := by decide +kernel
theorem dX5_readStatement_6 : decode cX5_readStatement 6 = .ok (.istore_n 1, 1) := by decide +kernel
theorem dX5_readStatement_7 : decode cX5_readStatement 7 = .ok (.aload_n 0, 1) := by decide +kernel
theorem dX5_readStatement_8 : decode cX5_readStatement 8 = .ok (.invokevirtual 164, 3) := by decide +kernel
theorem dX5_readStatement_11 : decode cX5_readStatement 11 = .ok (.istore_n 2, 1) := by decide +kernel
theorem dX5_readStatement_12 : decode cX5_readStatement 12 = .ok (.aload_n 0, 1) := by decide +kernel
theorem dX5_readStatement_13 : decode cX5_readStatement 13 = .ok (.getfield 47, 3) := by decide +kernel
theorem dX5_readStatement_16 : decode cX5_readStatement 16 = .ok (.aload_n 0, 1) := by decide +kernel
theorem dX5_readStatement_17 : decode cX5_readStatement 17 = .ok (.getfield 175, 3) := by decide +kernel
theorem dX5_readStatement_20 : decode cX5_readStatement 20 = .ok (.aload_n 0, 1) := by decide +kernel
theorem dX5_readStatement_21 : decode cX5_readStatement 21 = .ok (.getfield 158, 3) := by decide +kernel
theorem dX5_readStatement_24 : decode cX5_readStatement 24 = .ok (.iastore, 1) := by decide +kernel
theorem dX5_readStatement_25 : decode cX5_readStatement 25 = .ok (.aload_n 0, 1) := by decide +kernel
theorem dX5_readStatement_26 : decode cX5_readStatement 26 = .ok (.getfield 50, 3) := by decide +kernel
theorem dX5_readStatement_29 : decode cX5_readStatement 29 = .ok (.aload_n 0, 1) := by decide +kernel
theorem dX5_readStatement_30 : decode cX5_readStatement 30 = .ok (.getfield 175, 3) := by decide +kernel
theorem dX5_readStatement_33 : decode cX5_readStatement 33 = .ok (.iload_n 2, 1) := by decide +kernel
theorem dX5_readStatement_34 : decode cX5_readStatement 34 = .ok (.iastore, 1) := by decide +kernel
theorem dX5_readStatement_35 : decode cX5_readStatement 35 = .ok (.aload_n 0, 1) := by decide +kernel
theorem dX5_readStatement_36 : decode cX5_readStatement 36 = .ok (.aload_n 0, 1) := by decide +kernel
theorem dX5_readStatement_37 : decode cX5_readStatement 37 = .ok (.getfield 161, 3) := by decide +kernel
theorem dX5_readStatement_40 : decode cX5_readStatement 40 = .ok (.ifCond .ne 15, 3) := by decide +kernel
theorem dX5_readStatement_43 : decode cX5_readStatement 43 = .ok (.iload_n 2, 1) := by decide +kernel
theorem dX5_readStatement_44 : decode cX5_readStatement 44 = .ok (.bipush 112, 2) := by decide +kernel
theorem dX5_readStatement_46 : decode cX5_readStatement 46 = .ok (.if_icmp .eq 13, 3) := by decide +kernel
theorem dX5_readStatement_49 : decode cX5_readStatement 49 = .ok (.iload_n 2, 1) := by decide +kernel
theorem dX5_readStatement_50 : decode cX5_readStatement 50 = .ok (.bipush 108, 2) := by decide +kernel
theorem dX5_readStatement_52 : decode cX5_readStatement 52 = .ok (.if_icmp .eq 7, 3) := by decide +kernel
theorem dX5_readStatement_55 : decode cX5_readStatement 55 = .ok (.iconst 1, 1) := by decide +kernel
theorem dX5_readStatement_56 : decode cX5_readStatement 56 = .ok (.goto 4, 3) := by decide +kernel
theorem dX5_readStatement_59 : decode cX5_readStatement 59 = .ok (.iconst 0, 1) := by decide +kernel
theorem dX5_readStatement_60 : decode cX5_readStatement 60 = .ok (.putfield 161, 3) := by decide +kernel
theorem dX5_readStatement_63 : decode cX5_readStatement 63 = .ok (.aload_n 0, 1) := by decide +kernel
theorem dX5_readStatement_64 : decode cX5_readStatement 64 = .ok (.dup, 1) := by decide +kernel
theorem dX5_readStatement_65 : decode cX5_readStatement 65 = .ok (.getfield 158, 3) := by decide +kernel
theorem dX5_readStatement_68 : decode cX5_readStatement 68 = .ok (.aload_n 0, 1) := by decide +kernel
theorem dX5_readStatement_69 : decode cX5_readStatement 69 = .ok (.getfield 161, 3) := by decide +kernel
theorem dX5_readStatement_72 : decode cX5_readStatement 72 = .ok (.ifCond .eq 7, 3) := by decide +kernel
theorem dX5_readStatement_75 : decode cX5_readStatement 75 = .ok (.iconst 0, 1) := by decide +kernel
theorem dX5_readStatement_76 : decode cX5_readStatement 76 = .ok (.goto 4, 3) := by decide +kernel
theorem dX5_readStatement_79 : decode cX5_readStatement 79 = .ok (.iconst 1, 1) := by decide +kernel
theorem dX5_readStatement_80 : decode cX5_readStatement 80 = .ok (.iadd, 1) := by decide +kernel
theorem dX5_readStatement_81 : decode cX5_readStatement 81 = .ok (.putfield 158, 3) := by decide +kernel
theorem dX5_readStatement_84 : decode cX5_readStatement 84 = .ok (.iconst 0, 1) := by decide +kernel
theorem dX5_readStatement_85 : decode cX5_readStatement 85 = .ok (.istore_n 3, 1) := by decide +kernel
theorem dX5_readStatement_86 : decode cX5_readStatement 86 = .ok (.iload_n 3, 1) := by decide +kernel
theorem dX5_readStatement_87 : decode cX5_readStatement 87 = .ok (.iconst 3, 1) := by decide +kernel
theorem dX5_readStatement_88 : decode cX5_readStatement 88 = .ok (.if_icmp .ge 28, 3) := by decide +kernel
theorem dX5_readStatement_91 : decode cX5_readStatement 91 = .ok (.aload_n 0, 1) := by decide +kernel
theorem dX5_readStatement_92 : decode cX5_readStatement 92 = .ok (.getfield 161, 3) := by decide +kernel
theorem dX5_readStatement_95 : decode cX5_readStatement 95 = .ok (.ifCond .ne 21, 3) := by decide +kernel
theorem dX5_readStatement_98 : decode cX5_readStatement 98 = .ok (.aload_n 0, 1) := by decide +kernel
theorem dX5_readStatement_99 : decode cX5_readStatement 99 = .ok (.getfield 53, 3) := by decide +kernel
theorem dX5_readStatement_102 : decode cX5_readStatement 102 = .ok (.iload_n 1, 1) := by decide +kernel
theorem dX5_readStatement_103 : decode cX5_readStatement 103 = .ok (.iload_n 3, 1) := by decide +kernel
theorem dX5_readStatement_104 : decode cX5_readStatement 104 = .ok (.iadd, 1) := by decide +kernel
theorem dX5_readStatement_105 : decode cX5_readStatement 105 = .ok (.aload_n 0, 1) := by decide +kernel
theorem dX5_readStatement_106 : decode cX5_readStatement 106 = .ok (.invokevirtual 172, 3) := by decide +kernel
theorem dX5_readStatement_109 : decode cX5_readStatement 109 = .ok (.iastore, 1) := by decide +kernel
theorem dX5_readStatement_110 : decode cX5_readStatement 110 = .ok (.iinc 3 1, 3) := by decide +kernel
theorem dX5_readStatement_113 : decode cX5_readStatement 113 = .ok (.goto (-27), 3) := by decide +kernel
theorem dX5_readStatement_116 : decode cX5_readStatement 116 = .ok (.aload_n 0, 1) := by decide +kernel
theorem dX5_readStatement_117 : decode cX5_readStatement 117 = .ok (.getfield 161, 3) := by decide +kernel
theorem dX5_readStatement_120 : decode cX5_readStatement 120 = .ok (.ifCond .ne 52, 3) := by decide +kernel
theorem dX5_readStatement_123 : decode cX5_readStatement 123 = .ok (.iload_n 2, 1) := by decide +kernel
theorem dX5_readStatement_124 : decode cX5_readStatement 124 = .ok (.bipush 112, 2) := by decide +kernel
theorem dX5_readStatement_126 : decode cX5_readStatement 126 = .ok (.if_icmp .ne 46, 3) := by decide +kernel
theorem dX5_readStatement_129 : decode cX5_readStatement 129 = .ok (.aload_n 0, 1) := by decide +kernel
theorem dX5_readStatement_130 : decode cX5_readStatement 130 = .ok (.getfield 53, 3) := by decide +kernel
theorem dX5_readStatement_133 : decode cX5_readStatement 133 = .ok (.iload_n 1, 1) := by decide +kernel
theorem dX5_readStatement_134 : decode cX5_readStatement 134 = .ok (.iconst 3, 1) := by decide +kernel
theorem dX5_readStatement_135 : decode cX5_readStatement 135 = .ok (.iadd, 1) := by decide +kernel
theorem dX5_readStatement_136 : decode cX5_readStatement 136 = .ok (.aload_n 0, 1) := by decide +kernel
theorem dX5_readStatement_137 : decode cX5_readStatement 137 = .ok (.iconst 4, 1) := by decide +kernel
theorem dX5_readStatement_138 : decode cX5_readStatement 138 = .ok (.invokevirtual 178, 3) := by decide +kernel
theorem dX5_readStatement_141 : decode cX5_readStatement 141 = .ok (.iastore, 1) := by decide +kernel
theorem dX5_readStatement_142 : decode cX5_readStatement 142 = .ok (.aload_n 0, 1) := by decide +kernel
theorem dX5_readStatement_143 : decode cX5_readStatement 143 = .ok (.bipush 44, 2) := by decide +kernel
theorem dX5_readStatement_145 : decode cX5_readStatement 145 = .ok (.invokevirtual 181, 3) := by decide +kernel
theorem dX5_readStatement_148 : decode cX5_readStatement 148 = .ok (.aload_n 0, 1) := by decide +kernel
theorem dX5_readStatement_149 : decode cX5_readStatement 149 = .ok (.getfield 53, 3) := by decide +kernel
theorem dX5_readStatement_152 : decode cX5_readStatement 152 = .ok (.iload_n 1, 1) := by decide +kernel
theorem dX5_readStatement_153 : decode cX5_readStatement 153 = .ok (.iconst 4, 1) := by decide +kernel
theorem dX5_readStatement_154 : decode cX5_readStatement 154 = .ok (.iadd, 1) := by decide +kernel
theorem dX5_readStatement_155 : decode cX5_readStatement 155 = .ok (.aload_n 0, 1) := by decide +kernel
theorem dX5_readStatement_156 : decode cX5_readStatement 156 = .ok (.getfield 161, 3) := by decide +kernel
theorem dX5_readStatement_159 : decode cX5_readStatement 159 = .ok (.ifCond .eq 7, 3) := by decide +kernel
theorem dX5_readStatement_162 : decode cX5_readStatement 162 = .ok (.iconst 0, 1) := by decide +kernel
theorem dX5_readStatement_163 : decode cX5_readStatement 163 = .ok (.goto 8, 3) := by decide +kernel
theorem dX5_readStatement_166 : decode cX5_readStatement 166 = .ok (.aload_n 0, 1) := by decide +kernel
theorem dX5_readStatement_167 : decode cX5_readStatement 167 = .ok (.iconst 2, 1) := by decide +kernel
theorem dX5_readStatement_168 : decode cX5_readStatement 168 = .ok (.invokevirtual 178, 3) := by decide +kernel
theorem dX5_readStatement_171 : decode cX5_readStatement 171 = .ok (.iastore, 1) := by decide +kernel
theorem dX5_readStatement_172 : decode cX5_readStatement 172 = .ok (.aload_n 0, 1) := by decide +kernel
theorem dX5_readStatement_173 : decode cX5_readStatement 173 = .ok (.bipush 59, 2) := by decide +kernel
theorem dX5_readStatement_175 : decode cX5_readStatement 175 = .ok (.invokevirtual 181, 3) := by decide +kernel
theorem dX5_readStatement_178 : decode cX5_readStatement 178 = .ok (.aload_n 0, 1) := by decide +kernel
theorem dX5_readStatement_179 : decode cX5_readStatement 179 = .ok (.dup, 1) := by decide +kernel
theorem dX5_readStatement_180 : decode cX5_readStatement 180 = .ok (.getfield 175, 3) := by decide +kernel
theorem dX5_readStatement_183 : decode cX5_readStatement 183 = .ok (.iconst 1, 1) := by decide +kernel
theorem dX5_readStatement_184 : decode cX5_readStatement 184 = .ok (.iadd, 1) := by decide +kernel
theorem dX5_readStatement_185 : decode cX5_readStatement 185 = .ok (.putfield 175, 3) := by decide +kernel
theorem dX5_readStatement_188 : decode cX5_readStatement 188 = .ok (.return_, 1) := by decide +kernel
theorem dX5_isGood_0 : decode cX5_isGood 0 = .ok (.iconst 5, 1) := by decide +kernel
theorem dX5_isGood_1 : decode cX5_isGood 1 = .ok (.iload_n 1, 1) := by decide +kernel
theorem dX5_isGood_2 : decode cX5_isGood 2 = .ok (.imul, 1) := by decide +kernel
theorem dX5_isGood_3 : decode cX5_isGood 3 = .ok (.istore_n 2, 1) := by decide +kernel
theorem dX5_isGood_4 : decode cX5_isGood 4 = .ok (.aload_n 0, 1) := by decide +kernel
theorem dX5_isGood_5 : decode cX5_isGood 5 = .ok (.getfield 53, 3) := by decide +kernel
theorem dX5_isGood_8 : decode cX5_isGood 8 = .ok (.iload_n 2, 1) := by decide +kernel
theorem dX5_isGood_9 : decode cX5_isGood 9 = .ok (.iaload, 1) := by decide +kernel
theorem dX5_isGood_10 : decode cX5_isGood 10 = .ok (.istore_n 3, 1) := by decide +kernel
theorem dX5_isGood_11 : decode cX5_isGood 11 = .ok (.aload_n 0, 1) := by decide +kernel
theorem dX5_isGood_12 : decode cX5_isGood 12 = .ok (.getfield 53, 3) := by decide +kernel
theorem dX5_isGood_15 : decode cX5_isGood 15 = .ok (.iload_n 2, 1) := by decide +kernel
theorem dX5_isGood_16 : decode cX5_isGood 16 = .ok (.iconst 1, 1) := by decide +kernel
theorem dX5_isGood_17 : decode cX5_isGood 17 = .ok (.iadd, 1) := by decide +kernel
theorem dX5_isGood_18 : decode cX5_isGood 18 = .ok (.iaload, 1) := by decide +kernel
theorem dX5_isGood_19 : decode cX5_isGood 19 = .ok (.istore 4, 2) := by decide +kernel
theorem dX5_isGood_21 : decode cX5_isGood 21 = .ok (.aload_n 0, 1) := by decide +kernel
theorem dX5_isGood_22 : decode cX5_isGood 22 = .ok (.getfield 53, 3) := by decide +kernel
theorem dX5_isGood_25 : decode cX5_isGood 25 = .ok (.iload_n 2, 1) := by decide +kernel
theorem dX5_isGood_26 : decode cX5_isGood 26 = .ok (.iconst 2, 1) := by decide +kernel
theorem dX5_isGood_27 : decode cX5_isGood 27 = .ok (.iadd, 1) := by decide +kernel
theorem dX5_isGood_28 : decode cX5_isGood 28 = .ok (.iaload, 1) := by decide +kernel
theorem dX5_isGood_29 : decode cX5_isGood 29 = .ok (.istore 5, 2) := by decide +kernel
theorem dX5_isGood_31 : decode cX5_isGood 31 = .ok (.aload_n 0, 1) := by decide +kernel
theorem dX5_isGood_32 : decode cX5_isGood 32 = .ok (.getfield 50, 3) := by decide +kernel
theorem dX5_isGood_35 : decode cX5_isGood 35 = .ok (.iload_n 1, 1) := by decide +kernel
theorem dX5_isGood_36 : decode cX5_isGood 36 = .ok (.iaload, 1) := by decide +kernel
theorem dX5_isGood_37 : decode cX5_isGood 37 = .ok (.bipush 108, 2) := by decide +kernel
theorem dX5_isGood_39 : decode cX5_isGood 39 = .ok (.if_icmp .ne 35, 3) := by decide +kernel
theorem dX5_isGood_42 : decode cX5_isGood 42 = .ok (.iload_n 3, 1) := by decide +kernel
theorem dX5_isGood_43 : decode cX5_isGood 43 = .ok (.bipush 6, 2) := by decide +kernel
theorem dX5_isGood_45 : decode cX5_isGood 45 = .ok (.if_icmp .ge 27, 3) := by decide +kernel
theorem dX5_isGood_48 : decode cX5_isGood 48 = .ok (.iload 4, 2) := by decide +kernel
theorem dX5_isGood_50 : decode cX5_isGood 50 = .ok (.i2l, 1) := by decide +kernel
theorem dX5_isGood_51 : decode cX5_isGood 51 = .ok (.lconst 1, 1) := by decide +kernel
theorem dX5_isGood_52 : decode cX5_isGood 52 = .ok (.ldc2_w 184, 3) := by decide +kernel
theorem dX5_isGood_55 : decode cX5_isGood 55 = .ok (.invokestatic 74, 3) := by decide +kernel
theorem dX5_isGood_58 : decode cX5_isGood 58 = .ok (.ifCond .eq 14, 3) := by decide +kernel
theorem dX5_isGood_61 : decode cX5_isGood 61 = .ok (.iload 5, 2) := by decide +kernel
theorem dX5_isGood_63 : decode cX5_isGood 63 = .ok (.bipush 6, 2) := by decide +kernel
theorem dX5_isGood_65 : decode cX5_isGood 65 = .ok (.if_icmp .ge 7, 3) := by decide +kernel
theorem dX5_isGood_68 : decode cX5_isGood 68 = .ok (.iconst 1, 1) := by decide +kernel
theorem dX5_isGood_69 : decode cX5_isGood 69 = .ok (.goto 4, 3) := by decide +kernel
theorem dX5_isGood_72 : decode cX5_isGood 72 = .ok (.iconst 0, 1) := by decide +kernel
theorem dX5_isGood_73 : decode cX5_isGood 73 = .ok (.ireturn, 1) := by decide +kernel
theorem dX5_isGood_74 : decode cX5_isGood 74 = .ok (.iload_n 3, 1) := by decide +kernel
theorem dX5_isGood_75 : decode cX5_isGood 75 = .ok (.bipush 8, 2) := by decide +kernel
theorem dX5_isGood_77 : decode cX5_isGood 77 = .ok (.if_icmp .ge 39, 3) := by decide +kernel
theorem dX5_isGood_80 : decode cX5_isGood 80 = .ok (.iload 5, 2) := by decide +kernel
theorem dX5_isGood_82 : decode cX5_isGood 82 = .ok (.bipush 9, 2) := by decide +kernel
theorem dX5_isGood_84 : decode cX5_isGood 84 = .ok (.if_icmp .eq 12, 3) := by decide +kernel
theorem dX5_isGood_87 : decode cX5_isGood 87 = .ok (.iload 5, 2) := by decide +kernel
theorem dX5_isGood_89 : decode cX5_isGood 89 = .ok (.aload_n 0, 1) := by decide +kernel
theorem dX5_isGood_90 : decode cX5_isGood 90 = .ok (.getfield 186, 3) := by decide +kernel
theorem dX5_isGood_93 : decode cX5_isGood 93 = .ok (.if_icmp .gt 23, 3) := by decide +kernel
theorem dX5_isGood_96 : decode cX5_isGood 96 = .ok (.aload_n 0, 1) := by decide +kernel
theorem dX5_isGood_97 : decode cX5_isGood 97 = .ok (.getfield 186, 3) := by decide +kernel
theorem dX5_isGood_100 : decode cX5_isGood 100 = .ok (.bipush 6, 2) := by decide +kernel
theorem dX5_isGood_102 : decode cX5_isGood 102 = .ok (.if_icmp .ge 14, 3) := by decide +kernel
theorem dX5_isGood_105 : decode cX5_isGood 105 = .ok (.aload_n 0, 1) := by decide +kernel
theorem dX5_isGood_106 : decode cX5_isGood 106 = .ok (.getfield 78, 3) := by decide +kernel
theorem dX5_isGood_109 : decode cX5_isGood 109 = .ok (.ifCond .ne 7, 3) := by decide +kernel
theorem dX5_isGood_112 : decode cX5_isGood 112 = .ok (.iconst 1, 1) := by decide +kernel
theorem dX5_isGood_113 : decode cX5_isGood 113 = .ok (.goto 4, 3) := by decide +kernel
theorem dX5_isGood_116 : decode cX5_isGood 116 = .ok (.iconst 0, 1) := by decide +kernel
theorem dX5_isGood_117 : decode cX5_isGood 117 = .ok (.istore 6, 2) := by decide +kernel
theorem dX5_isGood_119 : decode cX5_isGood 119 = .ok (.aload_n 0, 1) := by decide +kernel
theorem dX5_isGood_120 : decode cX5_isGood 120 = .ok (.dup, 1) := by decide +kernel
theorem dX5_isGood_121 : decode cX5_isGood 121 = .ok (.getfield 186, 3) := by decide +kernel
theorem dX5_isGood_124 : decode cX5_isGood 124 = .ok (.iconst 1, 1) := by decide +kernel
theorem dX5_isGood_125 : decode cX5_isGood 125 = .ok (.iadd, 1) := by decide +kernel
theorem dX5_isGood_126 : decode cX5_isGood 126 = .ok (.putfield 186, 3) := by decide +kernel
theorem dX5_isGood_129 : decode cX5_isGood 129 = .ok (.iload 6, 2) := by decide +kernel
theorem dX5_isGood_131 : decode cX5_isGood 131 = .ok (.ireturn, 1) := by decide +kernel
theorem dX5_comes_0 : decode cX5_comes 0 = .ok (.iconst 5, 1) := by decide +kernel
theorem dX5_comes_1 : decode cX5_comes 1 = .ok (.iload_n 1, 1) := by decide +kernel
theorem dX5_comes_2 : decode cX5_comes 2 = .ok (.imul, 1) := by decide +kernel
theorem dX5_comes_3 : decode cX5_comes 3 = .ok (.istore_n 2, 1) := by decide +kernel
theorem dX5_comes_4 : decode cX5_comes 4 = .ok (.aload_n 0, 1) := by decide +kernel
theorem dX5_comes_5 : decode cX5_comes 5 = .ok (.getfield 50, 3) := by decide +kernel
theorem dX5_comes_8 : decode cX5_comes 8 = .ok (.iload_n 1, 1) := by decide +kernel
theorem dX5_comes_9 : decode cX5_comes 9 = .ok (.iaload, 1) := by decide +kernel
theorem dX5_comes_10 : decode cX5_comes 10 = .ok (.bipush 108, 2) := by decide +kernel
theorem dX5_comes_12 : decode cX5_comes 12 = .ok (.if_icmp .ne 38, 3) := by decide +kernel
theorem dX5_comes_15 : decode cX5_comes 15 = .ok (.aload_n 0, 1) := by decide +kernel
theorem dX5_comes_16 : decode cX5_comes 16 = .ok (.aload_n 0, 1) := by decide +kernel
theorem dX5_comes_17 : decode cX5_comes 17 = .ok (.getfield 53, 3) := by decide +kernel
theorem dX5_comes_20 : decode cX5_comes 20 = .ok (.iload_n 2, 1) := by decide +kernel
theorem dX5_comes_21 : decode cX5_comes 21 = .ok (.iaload, 1) := by decide +kernel
theorem dX5_comes_22 : decode cX5_comes 22 = .ok (.putfield 96, 3) := by decide +kernel
theorem dX5_comes_25 : decode cX5_comes 25 = .ok (.aload_n 0, 1) := by decide +kernel
theorem dX5_comes_26 : decode cX5_comes 26 = .ok (.aload_n 0, 1) := by decide +kernel
theorem dX5_comes_27 : decode cX5_comes 27 = .ok (.getfield 53, 3) := by decide +kernel
theorem dX5_comes_30 : decode cX5_comes 30 = .ok (.iload_n 2, 1) := by decide +kernel
theorem dX5_comes_31 : decode cX5_comes 31 = .ok (.iconst 1, 1) := by decide +kernel
theorem dX5_comes_32 : decode cX5_comes 32 = .ok (.iadd, 1) := by decide +kernel
theorem dX5_comes_33 : decode cX5_comes 33 = .ok (.iaload, 1) := by decide +kernel
theorem dX5_comes_34 : decode cX5_comes 34 = .ok (.putfield 7, 3) := by decide +kernel
theorem dX5_comes_37 : decode cX5_comes 37 = .ok (.aload_n 0, 1) := by decide +kernel
theorem dX5_comes_38 : decode cX5_comes 38 = .ok (.aload_n 0, 1) := by decide +kernel
theorem dX5_comes_39 : decode cX5_comes 39 = .ok (.getfield 53, 3) := by decide +kernel
theorem dX5_comes_42 : decode cX5_comes 42 = .ok (.iload_n 2, 1) := by decide +kernel
theorem dX5_comes_43 : decode cX5_comes 43 = .ok (.iconst 2, 1) := by decide +kernel
theorem dX5_comes_44 : decode cX5_comes 44 = .ok (.iadd, 1) := by decide +kernel
theorem dX5_comes_45 : decode cX5_comes 45 = .ok (.iaload, 1) := by decide +kernel
theorem dX5_comes_46 : decode cX5_comes 46 = .ok (.putfield 85, 3) := by decide +kernel
theorem dX5_comes_49 : decode cX5_comes 49 = .ok (.return_, 1) := by decide +kernel
theorem dX5_comes_50 : decode cX5_comes 50 = .ok (.aload_n 0, 1) := by decide +kernel
theorem dX5_comes_51 : decode cX5_comes 51 = .ok (.getfield 16, 3) := by decide +kernel
theorem dX5_comes_54 : decode cX5_comes 54 = .ok (.aload_n 0, 1) := by decide +kernel
theorem dX5_comes_55 : decode cX5_comes 55 = .ok (.getfield 71, 3) := by decide +kernel
theorem dX5_comes_58 : decode cX5_comes 58 = .ok (.aload_n 0, 1) := by decide +kernel
theorem dX5_comes_59 : decode cX5_comes 59 = .ok (.getfield 53, 3) := by decide +kernel
theorem dX5_comes_62 : decode cX5_comes 62 = .ok (.iload_n 2, 1) := by decide +kernel
theorem dX5_comes_63 : decode cX5_comes 63 = .ok (.iaload, 1) := by decide +kernel
theorem dX5_comes_64 : decode cX5_comes 64 = .ok (.iastore, 1) := by decide +kernel
theorem dX5_comes_65 : decode cX5_comes 65 = .ok (.aload_n 0, 1) := by decide +kernel
theorem dX5_comes_66 : decode cX5_comes 66 = .ok (.getfield 20, 3) := by decide +kernel
theorem dX5_comes_69 : decode cX5_comes 69 = .ok (.aload_n 0, 1) := by decide +kernel
theorem dX5_comes_70 : decode cX5_comes 70 = .ok (.getfield 71, 3) := by decide +kernel
theorem dX5_comes_73 : decode cX5_comes 73 = .ok (.aload_n 0, 1) := by decide +kernel
theorem dX5_comes_74 : decode cX5_comes 74 = .ok (.getfield 53, 3) := by decide +kernel
theorem dX5_comes_77 : decode cX5_comes 77 = .ok (.iload_n 2, 1) := by decide +kernel
theorem dX5_comes_78 : decode cX5_comes 78 = .ok (.iconst 1, 1) := by decide +kernel
theorem dX5_comes_79 : decode cX5_comes 79 = .ok (.iadd, 1) := by decide +kernel
theorem dX5_comes_80 : decode cX5_comes 80 = .ok (.iaload, 1) := by decide +kernel
theorem dX5_comes_81 : decode cX5_comes 81 = .ok (.iastore, 1) := by decide +kernel
theorem dX5_comes_82 : decode cX5_comes 82 = .ok (.aload_n 0, 1) := by decide +kernel
theorem dX5_comes_83 : decode cX5_comes 83 = .ok (.getfield 26, 3) := by decide +kernel
theorem dX5_comes_86 : decode cX5_comes 86 = .ok (.aload_n 0, 1) := by decide +kernel
theorem dX5_comes_87 : decode cX5_comes 87 = .ok (.getfield 71, 3) := by decide +kernel
theorem dX5_comes_90 : decode cX5_comes 90 = .ok (.aload_n 0, 1) := by decide +kernel
theorem dX5_comes_91 : decode cX5_comes 91 = .ok (.getfield 53, 3) := by decide +kernel
theorem dX5_comes_94 : decode cX5_comes 94 = .ok (.iload_n 2, 1) := by decide +kernel
theorem dX5_comes_95 : decode cX5_comes 95 = .ok (.iconst 2, 1) := by decide +kernel
theorem dX5_comes_96 : decode cX5_comes 96 = .ok (.iadd, 1) := by decide +kernel
theorem dX5_comes_97 : decode cX5_comes 97 = .ok (.iaload, 1) := by decide +kernel
theorem dX5_comes_98 : decode cX5_comes 98 = .ok (.iastore, 1) := by decide +kernel
theorem dX5_comes_99 : decode cX5_comes 99 = .ok (.aload_n 0, 1) := by decide +kernel
theorem dX5_comes_100 : decode cX5_comes 100 = .ok (.getfield 29, 3) := by decide +kernel
theorem dX5_comes_103 : decode cX5_comes 103 = .ok (.aload_n 0, 1) := by decide +kernel
theorem dX5_comes_104 : decode cX5_comes 104 = .ok (.getfield 71, 3) := by decide +kernel
theorem dX5_comes_107 : decode cX5_comes 107 = .ok (.aload_n 0, 1) := by decide +kernel
theorem dX5_comes_108 : decode cX5_comes 108 = .ok (.getfield 53, 3) := by decide +kernel
theorem dX5_comes_111 : decode cX5_comes 111 = .ok (.iload_n 2, 1) := by decide +kernel
theorem dX5_comes_112 : decode cX5_comes 112 = .ok (.iconst 3, 1) := by decide +kernel
theorem dX5_comes_113 : decode cX5_comes 113 = .ok (.iadd, 1) := by decide +kernel
theorem dX5_comes_114 : decode cX5_comes 114 = .ok (.iaload, 1) := by decide +kernel
theorem dX5_comes_115 : decode cX5_comes 115 = .ok (.iastore, 1) := by decide +kernel
theorem dX5_comes_116 : decode cX5_comes 116 = .ok (.aload_n 0, 1) := by decide +kernel
theorem dX5_comes_117 : decode cX5_comes 117 = .ok (.getfield 23, 3) := by decide +kernel
theorem dX5_comes_120 : decode cX5_comes 120 = .ok (.aload_n 0, 1) := by decide +kernel
theorem dX5_comes_121 : decode cX5_comes 121 = .ok (.getfield 71, 3) := by decide +kernel
theorem dX5_comes_124 : decode cX5_comes 124 = .ok (.aload_n 0, 1) := by decide +kernel
theorem dX5_comes_125 : decode cX5_comes 125 = .ok (.getfield 53, 3) := by decide +kernel
theorem dX5_comes_128 : decode cX5_comes 128 = .ok (.iload_n 2, 1) := by decide +kernel
theorem dX5_comes_129 : decode cX5_comes 129 = .ok (.iconst 4, 1) := by decide +kernel
theorem dX5_comes_130 : decode cX5_comes 130 = .ok (.iadd, 1) := by decide +kernel
theorem dX5_comes_131 : decode cX5_comes 131 = .ok (.iaload, 1) := by decide +kernel
theorem dX5_comes_132 : decode cX5_comes 132 = .ok (.iastore, 1) := by decide +kernel
theorem dX5_comes_133 : decode cX5_comes 133 = .ok (.aload_n 0, 1) := by decide +kernel
theorem dX5_comes_134 : decode cX5_comes 134 = .ok (.dup, 1) := by decide +kernel
theorem dX5_comes_135 : decode cX5_comes 135 = .ok (.getfield 71, 3) := by decide +kernel
theorem dX5_comes_138 : decode cX5_comes 138 = .ok (.iconst 1, 1) := by decide +kernel
theorem dX5_comes_139 : decode cX5_comes 139 = .ok (.iadd, 1) := by decide +kernel
theorem dX5_comes_140 : decode cX5_comes 140 = .ok (.putfield 71, 3) := by decide +kernel
theorem dX5_comes_143 : decode cX5_comes 143 = .ok (.return_, 1) := by decide +kernel
theorem dX5_land_0 : decode cX5_land 0 = .ok (.aload_n 0, 1) := by decide +kernel
theorem dX5_land_1 : decode cX5_land 1 = .ok (.iconst 0, 1) := by decide +kernel
theorem dX5_land_2 : decode cX5_land 2 = .ok (.putfield 68, 3) := by decide +kernel
theorem dX5_land_5 : decode cX5_land 5 = .ok (.aload_n 0, 1) := by decide +kernel
theorem dX5_land_6 : decode cX5_land 6 = .ok (.iconst 0, 1) := by decide +kernel
theorem dX5_land_7 : decode cX5_land 7 = .ok (.putfield 158, 3) := by decide +kernel
theorem dX5_land_10 : decode cX5_land 10 = .ok (.aload_n 0, 1) := by decide +kernel
theorem dX5_land_11 : decode cX5_land 11 = .ok (.iconst 0, 1) := by decide +kernel
theorem dX5_land_12 : decode cX5_land 12 = .ok (.putfield 161, 3) := by decide +kernel
theorem dX5_land_15 : decode cX5_land 15 = .ok (.aload_n 0, 1) := by decide +kernel
theorem dX5_land_16 : decode cX5_land 16 = .ok (.iconst 0, 1) := by decide +kernel
theorem dX5_land_17 : decode cX5_land 17 = .ok (.putfield 175, 3) := by decide +kernel
theorem dX5_land_20 : decode cX5_land 20 = .ok (.aload_n 0, 1) := by decide +kernel
theorem dX5_land_21 : decode cX5_land 21 = .ok (.getfield 161, 3) := by decide +kernel
theorem dX5_land_24 : decode cX5_land 24 = .ok (.ifCond .ne 28, 3) := by decide +kernel
theorem dX5_land_27 : decode cX5_land 27 = .ok (.aload_n 0, 1) := by decide +kernel
theorem dX5_land_28 : decode cX5_land 28 = .ok (.getfield 175, 3) := by decide +kernel
theorem dX5_land_31 : decode cX5_land 31 = .ok (.ifCond .eq 14, 3) := by decide +kernel
theorem dX5_land_34 : decode cX5_land 34 = .ok (.aload_n 0, 1) := by decide +kernel
theorem dX5_land_35 : decode cX5_land 35 = .ok (.getfield 158, 3) := by decide +kernel
theorem dX5_land_38 : decode cX5_land 38 = .ok (.aload_n 0, 1) := by decide +kernel
theorem dX5_land_39 : decode cX5_land 39 = .ok (.getfield 155, 3) := by decide +kernel
theorem dX5_land_42 : decode cX5_land 42 = .ok (.if_icmp .ge 10, 3) := by decide +kernel
theorem dX5_land_45 : decode cX5_land 45 = .ok (.aload_n 0, 1) := by decide +kernel
theorem dX5_land_46 : decode cX5_land 46 = .ok (.invokevirtual 189, 3) := by decide +kernel
theorem dX5_land_49 : decode cX5_land 49 = .ok (.goto (-29), 3) := by decide +kernel
theorem dX5_land_52 : decode cX5_land 52 = .ok (.aload_n 0, 1) := by decide +kernel
theorem dX5_land_53 : decode cX5_land 53 = .ok (.iconst 0, 1) := by decide +kernel
theorem dX5_land_54 : decode cX5_land 54 = .ok (.putfield 155, 3) := by decide +kernel
theorem dX5_land_57 : decode cX5_land 57 = .ok (.aload_n 0, 1) := by decide +kernel
theorem dX5_land_58 : decode cX5_land 58 = .ok (.getfield 161, 3) := by decide +kernel
theorem dX5_land_61 : decode cX5_land 61 = .ok (.ifCond .eq 12, 3) := by decide +kernel
theorem dX5_land_64 : decode cX5_land 64 = .ok (.sipush (-1000), 3) := by decide +kernel
theorem dX5_land_67 : decode cX5_land 67 = .ok (.aload_n 0, 1) := by decide +kernel
theorem dX5_land_68 : decode cX5_land 68 = .ok (.getfield 158, 3) := by decide +kernel
theorem dX5_land_71 : decode cX5_land 71 = .ok (.isub, 1) := by decide +kernel
theorem dX5_land_72 : decode cX5_land 72 = .ok (.ireturn, 1) := by decide +kernel
theorem dX5_land_73 : decode cX5_land 73 = .ok (.aload_n 0, 1) := by decide +kernel
theorem dX5_land_74 : decode cX5_land 74 = .ok (.aload_n 0, 1) := by decide +kernel
theorem dX5_land_75 : decode cX5_land 75 = .ok (.getfield 71, 3) := by decide +kernel
theorem dX5_land_78 : decode cX5_land 78 = .ok (.putfield 186, 3) := by decide +kernel
theorem dX5_land_81 : decode cX5_land 81 = .ok (.iconst 0, 1) := by decide +kernel
theorem dX5_land_82 : decode cX5_land 82 = .ok (.istore_n 1, 1) := by decide +kernel
theorem dX5_land_83 : decode cX5_land 83 = .ok (.iload_n 1, 1) := by decide +kernel
theorem dX5_land_84 : decode cX5_land 84 = .ok (.aload_n 0, 1) := by decide +kernel
theorem dX5_land_85 : decode cX5_land 85 = .ok (.getfield 175, 3) := by decide +kernel
theorem dX5_land_88 : decode cX5_land 88 = .ok (.if_icmp .ge 28, 3) := by decide +kernel
theorem dX5_land_91 : decode cX5_land 91 = .ok (.aload_n 0, 1) := by decide +kernel
theorem dX5_land_92 : decode cX5_land 92 = .ok (.iload_n 1, 1) := by decide +kernel
theorem dX5_land_93 : decode cX5_land 93 = .ok (.invokevirtual 192, 3) := by decide +kernel
theorem dX5_land_96 : decode cX5_land 96 = .ok (.ifCond .ne 14, 3) := by decide +kernel
theorem dX5_land_99 : decode cX5_land 99 = .ok (.sipush (-2000), 3) := by decide +kernel
theorem dX5_land_102 : decode cX5_land 102 = .ok (.aload_n 0, 1) := by decide +kernel
theorem dX5_land_103 : decode cX5_land 103 = .ok (.getfield 47, 3) := by decide +kernel
theorem dX5_land_106 : decode cX5_land 106 = .ok (.iload_n 1, 1) := by decide +kernel
theorem dX5_land_107 : decode cX5_land 107 = .ok (.iaload, 1) := by decide +kernel
theorem dX5_land_108 : decode cX5_land 108 = .ok (.isub, 1) := by decide +kernel
theorem dX5_land_109 : decode cX5_land 109 = .ok (.ireturn, 1) := by decide +kernel
theorem dX5_land_110 : decode cX5_land 110 = .ok (.iinc 1 1, 3) := by decide +kernel
theorem dX5_land_113 : decode cX5_land 113 = .ok (.goto (-30), 3) := by decide +kernel
theorem dX5_land_116 : decode cX5_land 116 = .ok (.iconst 0, 1) := by decide +kernel
theorem dX5_land_117 : decode cX5_land 117 = .ok (.istore_n 1, 1) := by decide +kernel
theorem dX5_land_118 : decode cX5_land 118 = .ok (.iload_n 1, 1) := by decide +kernel
theorem dX5_land_119 : decode cX5_land 119 = .ok (.aload_n 0, 1) := by decide +kernel
theorem dX5_land_120 : decode cX5_land 120 = .ok (.getfield 175, 3) := by decide +kernel
theorem dX5_land_123 : decode cX5_land 123 = .ok (.if_icmp .ge 14, 3) := by decide +kernel
theorem dX5_land_126 : decode cX5_land 126 = .ok (.aload_n 0, 1) := by decide +kernel
theorem dX5_land_127 : decode cX5_land 127 = .ok (.iload_n 1, 1) := by decide +kernel
theorem dX5_land_128 : decode cX5_land 128 = .ok (.invokevirtual 196, 3) := by decide +kernel
theorem dX5_land_131 : decode cX5_land 131 = .ok (.iinc 1 1, 3) := by decide +kernel
theorem dX5_land_134 : decode cX5_land 134 = .ok (.goto (-16), 3) := by decide +kernel
theorem dX5_land_137 : decode cX5_land 137 = .ok (.aload_n 0, 1) := by decide +kernel
theorem dX5_land_138 : decode cX5_land 138 = .ok (.getfield 175, 3) := by decide +kernel
theorem dX5_land_141 : decode cX5_land 141 = .ok (.ireturn, 1) := by decide +kernel
theorem dX5_person_0 : decode cX5_person 0 = .ok (.aload_n 0, 1) := by decide +kernel
theorem dX5_person_1 : decode cX5_person 1 = .ok (.iconst 0, 1) := by decide +kernel
theorem dX5_person_2 : decode cX5_person 2 = .ok (.putfield 68, 3) := by decide +kernel
theorem dX5_person_5 : decode cX5_person 5 = .ok (.aload_n 0, 1) := by decide +kernel
theorem dX5_person_6 : decode cX5_person 6 = .ok (.iload_n 1, 1) := by decide +kernel
theorem dX5_person_7 : decode cX5_person 7 = .ok (.invokevirtual 199, 3) := by decide +kernel
theorem dX5_person_10 : decode cX5_person 10 = .ok (.ifCond .eq 15, 3) := by decide +kernel
theorem dX5_person_13 : decode cX5_person 13 = .ok (.iload_n 2, 1) := by decide +kernel
theorem dX5_person_14 : decode cX5_person 14 = .ok (.i2l, 1) := by decide +kernel
theorem dX5_person_15 : decode cX5_person 15 = .ok (.lconst 0, 1) := by decide +kernel
theorem dX5_person_16 : decode cX5_person 16 = .ok (.ldc2_w 202, 3) := by decide +kernel
theorem dX5_person_19 : decode cX5_person 19 = .ok (.invokestatic 74, 3) := by decide +kernel
theorem dX5_person_22 : decode cX5_person 22 = .ok (.ifCond .ne 22, 3) := by decide +kernel
theorem dX5_person_25 : decode cX5_person 25 = .ok (.aload_n 0, 1) := by decide +kernel
theorem dX5_person_26 : decode cX5_person 26 = .ok (.aload_n 0, 1) := by decide +kernel
theorem dX5_person_27 : decode cX5_person 27 = .ok (.iload_n 1, 1) := by decide +kernel
theorem dX5_person_28 : decode cX5_person 28 = .ok (.invokevirtual 199, 3) := by decide +kernel
theorem dX5_person_31 : decode cX5_person 31 = .ok (.ifCond .ne 7, 3) := by decide +kernel
theorem dX5_person_34 : decode cX5_person 34 = .ok (.iconst (-1), 1) := by decide +kernel
theorem dX5_person_35 : decode cX5_person 35 = .ok (.goto 5, 3) := by decide +kernel
theorem dX5_person_38 : decode cX5_person 38 = .ok (.bipush (-2), 2) := by decide +kernel
theorem dX5_person_40 : decode cX5_person 40 = .ok (.invokevirtual 152, 3) := by decide +kernel
theorem dX5_person_43 : decode cX5_person 43 = .ok (.ireturn, 1) := by decide +kernel
theorem dX5_person_44 : decode cX5_person 44 = .ok (.iload_n 2, 1) := by decide +kernel
theorem dX5_person_45 : decode cX5_person 45 = .ok (.tableswitch 108 0 7 #[47, 54, 61, 68, 75, 82, 92, 98], 47) := by decide +kernel
theorem dX5_person_92 : decode cX5_person 92 = .ok (.aload_n 0, 1) := by decide +kernel
theorem dX5_person_93 : decode cX5_person 93 = .ok (.getfield 16, 3) := by decide +kernel
theorem dX5_person_96 : decode cX5_person 96 = .ok (.iload_n 1, 1) := by decide +kernel
theorem dX5_person_97 : decode cX5_person 97 = .ok (.iaload, 1) := by decide +kernel
theorem dX5_person_98 : decode cX5_person 98 = .ok (.ireturn, 1) := by decide +kernel
theorem dX5_person_99 : decode cX5_person 99 = .ok (.aload_n 0, 1) := by decide +kernel
theorem dX5_person_100 : decode cX5_person 100 = .ok (.getfield 20, 3) := by decide +kernel
theorem dX5_person_103 : decode cX5_person 103 = .ok (.iload_n 1, 1) := by decide +kernel
theorem dX5_person_104 : decode cX5_person 104 = .ok (.iaload, 1) := by decide +kernel
theorem dX5_person_105 : decode cX5_person 105 = .ok (.ireturn, 1) := by decide +kernel
theorem dX5_person_106 : decode cX5_person 106 = .ok (.aload_n 0, 1) := by decide +kernel
theorem dX5_person_107 : decode cX5_person 107 = .ok (.getfield 26, 3) := by decide +kernel
theorem dX5_person_110 : decode cX5_person 110 = .ok (.iload_n 1, 1) := by decide +kernel
theorem dX5_person_111 : decode cX5_person 111 = .ok (.iaload, 1) := by decide +kernel
theorem dX5_person_112 : decode cX5_person 112 = .ok (.ireturn, 1) := by decide +kernel
theorem dX5_person_113 : decode cX5_person 113 = .ok (.aload_n 0, 1) := by decide +kernel
theorem dX5_person_114 : decode cX5_person 114 = .ok (.getfield 29, 3) := by decide +kernel
theorem dX5_person_117 : decode cX5_person 117 = .ok (.iload_n 1, 1) := by decide +kernel
theorem dX5_person_118 : decode cX5_person 118 = .ok (.iaload, 1) := by decide +kernel
theorem dX5_person_119 : decode cX5_person 119 = .ok (.ireturn, 1) := by decide +kernel
theorem dX5_person_120 : decode cX5_person 120 = .ok (.aload_n 0, 1) := by decide +kernel
theorem dX5_person_121 : decode cX5_person 121 = .ok (.getfield 23, 3) := by decide +kernel
theorem dX5_person_124 : decode cX5_person 124 = .ok (.iload_n 1, 1) := by decide +kernel
theorem dX5_person_125 : decode cX5_person 125 = .ok (.iaload, 1) := by decide +kernel
theorem dX5_person_126 : decode cX5_person 126 = .ok (.ireturn, 1) := by decide +kernel
theorem dX5_person_127 : decode cX5_person 127 = .ok (.aload_n 0, 1) := by decide +kernel
theorem dX5_person_128 : decode cX5_person 128 = .ok (.aload_n 0, 1) := by decide +kernel
theorem dX5_person_129 : decode cX5_person 129 = .ok (.getfield 78, 3) := by decide +kernel
theorem dX5_person_132 : decode cX5_person 132 = .ok (.iload_n 1, 1) := by decide +kernel
theorem dX5_person_133 : decode cX5_person 133 = .ok (.invokevirtual 102, 3) := by decide +kernel
theorem dX5_person_136 : decode cX5_person 136 = .ok (.ireturn, 1) := by decide +kernel
theorem dX5_person_137 : decode cX5_person 137 = .ok (.aload_n 0, 1) := by decide +kernel
theorem dX5_person_138 : decode cX5_person 138 = .ok (.iload_n 1, 1) := by decide +kernel
theorem dX5_person_139 : decode cX5_person 139 = .ok (.invokevirtual 119, 3) := by decide +kernel
theorem dX5_person_142 : decode cX5_person 142 = .ok (.ireturn, 1) := by decide +kernel
theorem dX5_person_143 : decode cX5_person 143 = .ok (.aload_n 0, 1) := by decide +kernel
theorem dX5_person_144 : decode cX5_person 144 = .ok (.aload_n 0, 1) := by decide +kernel
theorem dX5_person_145 : decode cX5_person 145 = .ok (.getfield 78, 3) := by decide +kernel
theorem dX5_person_148 : decode cX5_person 148 = .ok (.iload_n 1, 1) := by decide +kernel
theorem dX5_person_149 : decode cX5_person 149 = .ok (.invokevirtual 204, 3) := by decide +kernel
theorem dX5_person_152 : decode cX5_person 152 = .ok (.ireturn, 1) := by decide +kernel
theorem dX5_person_153 : decode cX5_person 153 = .ok (.aload_n 0, 1) := by decide +kernel
theorem dX5_person_154 : decode cX5_person 154 = .ok (.aload_n 0, 1) := by decide +kernel
theorem dX5_person_155 : decode cX5_person 155 = .ok (.getfield 78, 3) := by decide +kernel
theorem dX5_person_158 : decode cX5_person 158 = .ok (.iconst 1, 1) := by decide +kernel
theorem dX5_person_159 : decode cX5_person 159 = .ok (.isub, 1) := by decide +kernel
theorem dX5_person_160 : decode cX5_person 160 = .ok (.iload_n 1, 1) := by decide +kernel
theorem dX5_person_161 : decode cX5_person 161 = .ok (.invokevirtual 92, 3) := by decide +kernel
theorem dX5_person_164 : decode cX5_person 164 = .ok (.ireturn, 1) := by decide +kernel
theorem dX5_put_0 : decode cX5_put 0 = .ok (.aload_n 0, 1) := by decide +kernel
theorem dX5_put_1 : decode cX5_put 1 = .ok (.iconst 0, 1) := by decide +kernel
theorem dX5_put_2 : decode cX5_put 2 = .ok (.putfield 68, 3) := by decide +kernel
theorem dX5_put_5 : decode cX5_put 5 = .ok (.aload_n 0, 1) := by decide +kernel
theorem dX5_put_6 : decode cX5_put 6 = .ok (.iload_n 1, 1) := by decide +kernel
theorem dX5_put_7 : decode cX5_put 7 = .ok (.invokevirtual 199, 3) := by decide +kernel
theorem dX5_put_10 : decode cX5_put 10 = .ok (.ifCond .eq 15, 3) := by decide +kernel
theorem dX5_put_13 : decode cX5_put 13 = .ok (.iload_n 2, 1) := by decide +kernel
theorem dX5_put_14 : decode cX5_put 14 = .ok (.i2l, 1) := by decide +kernel
theorem dX5_put_15 : decode cX5_put 15 = .ok (.lconst 0, 1) := by decide +kernel
theorem dX5_put_16 : decode cX5_put 16 = .ok (.ldc2_w 207, 3) := by decide +kernel
theorem dX5_put_19 : decode cX5_put 19 = .ok (.invokestatic 74, 3) := by decide +kernel
theorem dX5_put_22 : decode cX5_put 22 = .ok (.ifCond .ne 22, 3) := by decide +kernel
theorem dX5_put_25 : decode cX5_put 25 = .ok (.aload_n 0, 1) := by decide +kernel
theorem dX5_put_26 : decode cX5_put 26 = .ok (.aload_n 0, 1) := by decide +kernel
theorem dX5_put_27 : decode cX5_put 27 = .ok (.iload_n 1, 1) := by decide +kernel
theorem dX5_put_28 : decode cX5_put 28 = .ok (.invokevirtual 199, 3) := by decide +kernel
theorem dX5_put_31 : decode cX5_put 31 = .ok (.ifCond .ne 7, 3) := by decide +kernel
theorem dX5_put_34 : decode cX5_put 34 = .ok (.iconst (-1), 1) := by decide +kernel
theorem dX5_put_35 : decode cX5_put 35 = .ok (.goto 5, 3) := by decide +kernel
theorem dX5_put_38 : decode cX5_put 38 = .ok (.bipush (-2), 2) := by decide +kernel
theorem dX5_put_40 : decode cX5_put 40 = .ok (.invokevirtual 152, 3) := by decide +kernel
theorem dX5_put_43 : decode cX5_put 43 = .ok (.ireturn, 1) := by decide +kernel
theorem dX5_put_44 : decode cX5_put 44 = .ok (.iload_n 2, 1) := by decide +kernel
theorem dX5_put_45 : decode cX5_put 45 = .ok (.iconst 2, 1) := by decide +kernel
theorem dX5_put_46 : decode cX5_put 46 = .ok (.if_icmp .ne 41, 3) := by decide +kernel
theorem dX5_put_49 : decode cX5_put 49 = .ok (.aload_n 0, 1) := by decide +kernel
theorem dX5_put_50 : decode cX5_put 50 = .ok (.iload_n 3, 1) := by decide +kernel
theorem dX5_put_51 : decode cX5_put 51 = .ok (.invokevirtual 199, 3) := by decide +kernel
theorem dX5_put_54 : decode cX5_put 54 = .ok (.ifCond .ne 15, 3) := by decide +kernel
theorem dX5_put_57 : decode cX5_put 57 = .ok (.iload_n 3, 1) := by decide +kernel
theorem dX5_put_58 : decode cX5_put 58 = .ok (.bipush 9, 2) := by decide +kernel
theorem dX5_put_60 : decode cX5_put 60 = .ok (.if_icmp .eq 9, 3) := by decide +kernel
theorem dX5_put_63 : decode cX5_put 63 = .ok (.aload_n 0, 1) := by decide +kernel
theorem dX5_put_64 : decode cX5_put 64 = .ok (.iconst (-1), 1) := by decide +kernel
theorem dX5_put_65 : decode cX5_put 65 = .ok (.invokevirtual 152, 3) := by decide +kernel
theorem dX5_put_68 : decode cX5_put 68 = .ok (.ireturn, 1) := by decide +kernel
theorem dX5_put_69 : decode cX5_put 69 = .ok (.aload_n 0, 1) := by decide +kernel
theorem dX5_put_70 : decode cX5_put 70 = .ok (.getfield 26, 3) := by decide +kernel
theorem dX5_put_73 : decode cX5_put 73 = .ok (.iload_n 1, 1) := by decide +kernel
theorem dX5_put_74 : decode cX5_put 74 = .ok (.iaload, 1) := by decide +kernel
theorem dX5_put_75 : decode cX5_put 75 = .ok (.istore 4, 2) := by decide +kernel
theorem dX5_put_77 : decode cX5_put 77 = .ok (.aload_n 0, 1) := by decide +kernel
theorem dX5_put_78 : decode cX5_put 78 = .ok (.getfield 26, 3) := by decide +kernel
theorem dX5_put_81 : decode cX5_put 81 = .ok (.iload_n 1, 1) := by decide +kernel
theorem dX5_put_82 : decode cX5_put 82 = .ok (.iload_n 3, 1) := by decide +kernel
theorem dX5_put_83 : decode cX5_put 83 = .ok (.iastore, 1) := by decide +kernel
theorem dX5_put_84 : decode cX5_put 84 = .ok (.iload 4, 2) := by decide +kernel
theorem dX5_put_86 : decode cX5_put 86 = .ok (.ireturn, 1) := by decide +kernel
theorem dX5_put_87 : decode cX5_put 87 = .ok (.iload_n 3, 1) := by decide +kernel
theorem dX5_put_88 : decode cX5_put 88 = .ok (.ifCond .lt 19, 3) := by decide +kernel
theorem dX5_put_91 : decode cX5_put 91 = .ok (.iload_n 3, 1) := by decide +kernel
theorem dX5_put_92 : decode cX5_put 92 = .ok (.iload_n 2, 1) := by decide +kernel
theorem dX5_put_93 : decode cX5_put 93 = .ok (.ifCond .ne 9, 3) := by decide +kernel
theorem dX5_put_96 : decode cX5_put 96 = .ok (.sipush 9999, 3) := by decide +kernel
theorem dX5_put_99 : decode cX5_put 99 = .ok (.goto 5, 3) := by decide +kernel
theorem dX5_put_102 : decode cX5_put 102 = .ok (.bipush 99, 2) := by decide +kernel
theorem dX5_put_104 : decode cX5_put 104 = .ok (.if_icmp .le 19, 3) := by decide +kernel
theorem dX5_put_107 : decode cX5_put 107 = .ok (.aload_n 0, 1) := by decide +kernel
theorem dX5_put_108 : decode cX5_put 108 = .ok (.iload_n 3, 1) := by decide +kernel
theorem dX5_put_109 : decode cX5_put 109 = .ok (.ifCond .ge 8, 3) := by decide +kernel
theorem dX5_put_112 : decode cX5_put 112 = .ok (.bipush (-4), 2) := by decide +kernel
theorem dX5_put_114 : decode cX5_put 114 = .ok (.goto 5, 3) := by decide +kernel
theorem dX5_put_117 : decode cX5_put 117 = .ok (.bipush (-6), 2) := by decide +kernel
theorem dX5_put_119 : decode cX5_put 119 = .ok (.invokevirtual 152, 3) := by decide +kernel
theorem dX5_put_122 : decode cX5_put 122 = .ok (.ireturn, 1) := by decide +kernel
theorem dX5_put_123 : decode cX5_put 123 = .ok (.iload_n 2, 1) := by decide +kernel
theorem dX5_put_124 : decode cX5_put 124 = .ok (.ifCond .ne 12, 3) := by decide +kernel
theorem dX5_put_127 : decode cX5_put 127 = .ok (.aload_n 0, 1) := by decide +kernel
theorem dX5_put_128 : decode cX5_put 128 = .ok (.getfield 29, 3) := by decide +kernel
theorem dX5_put_131 : decode cX5_put 131 = .ok (.iload_n 1, 1) := by decide +kernel
theorem dX5_put_132 : decode cX5_put 132 = .ok (.iaload, 1) := by decide +kernel
theorem dX5_put_133 : decode cX5_put 133 = .ok (.goto 9, 3) := by decide +kernel
theorem dX5_put_136 : decode cX5_put 136 = .ok (.aload_n 0, 1) := by decide +kernel
theorem dX5_put_137 : decode cX5_put 137 = .ok (.getfield 23, 3) := by decide +kernel
theorem dX5_put_140 : decode cX5_put 140 = .ok (.iload_n 1, 1) := by decide +kernel
theorem dX5_put_141 : decode cX5_put 141 = .ok (.iaload, 1) := by decide +kernel
theorem dX5_put_142 : decode cX5_put 142 = .ok (.istore 4, 2) := by decide +kernel
theorem dX5_put_144 : decode cX5_put 144 = .ok (.aload_n 0, 1) := by decide +kernel
theorem dX5_put_145 : decode cX5_put 145 = .ok (.getfield 29, 3) := by decide +kernel
theorem dX5_put_148 : decode cX5_put 148 = .ok (.iload_n 1, 1) := by decide +kernel
theorem dX5_put_149 : decode cX5_put 149 = .ok (.iload_n 2, 1) := by decide +kernel
theorem dX5_put_150 : decode cX5_put 150 = .ok (.ifCond .ne 7, 3) := by decide +kernel
theorem dX5_put_153 : decode cX5_put 153 = .ok (.iload_n 3, 1) := by decide +kernel
theorem dX5_put_154 : decode cX5_put 154 = .ok (.goto 9, 3) := by decide +kernel
theorem dX5_put_157 : decode cX5_put 157 = .ok (.aload_n 0, 1) := by decide +kernel
theorem dX5_put_158 : decode cX5_put 158 = .ok (.getfield 29, 3) := by decide +kernel
theorem dX5_put_161 : decode cX5_put 161 = .ok (.iload_n 1, 1) := by decide +kernel
theorem dX5_put_162 : decode cX5_put 162 = .ok (.iaload, 1) := by decide +kernel
theorem dX5_put_163 : decode cX5_put 163 = .ok (.iastore, 1) := by decide +kernel
theorem dX5_put_164 : decode cX5_put 164 = .ok (.aload_n 0, 1) := by decide +kernel
theorem dX5_put_165 : decode cX5_put 165 = .ok (.getfield 23, 3) := by decide +kernel
theorem dX5_put_168 : decode cX5_put 168 = .ok (.iload_n 1, 1) := by decide +kernel
theorem dX5_put_169 : decode cX5_put 169 = .ok (.iload_n 2, 1) := by decide +kernel
theorem dX5_put_170 : decode cX5_put 170 = .ok (.iconst 1, 1) := by decide +kernel
theorem dX5_put_171 : decode cX5_put 171 = .ok (.if_icmp .ne 7, 3) := by decide +kernel
theorem dX5_put_174 : decode cX5_put 174 = .ok (.iload_n 3, 1) := by decide +kernel
theorem dX5_put_175 : decode cX5_put 175 = .ok (.goto 9, 3) := by decide +kernel
theorem dX5_put_178 : decode cX5_put 178 = .ok (.aload_n 0, 1) := by decide +kernel
theorem dX5_put_179 : decode cX5_put 179 = .ok (.getfield 23, 3) := by decide +kernel
theorem dX5_put_182 : decode cX5_put 182 = .ok (.iload_n 1, 1) := by decide +kernel
theorem dX5_put_183 : decode cX5_put 183 = .ok (.iaload, 1) := by decide +kernel
theorem dX5_put_184 : decode cX5_put 184 = .ok (.iastore, 1) := by decide +kernel
theorem dX5_put_185 : decode cX5_put 185 = .ok (.iload 4, 2) := by decide +kernel
theorem dX5_put_187 : decode cX5_put 187 = .ok (.ireturn, 1) := by decide +kernel
theorem dX5_set_0 : decode cX5_set 0 = .ok (.aload_n 0, 1) := by decide +kernel
theorem dX5_set_1 : decode cX5_set 1 = .ok (.iconst 0, 1) := by decide +kernel
theorem dX5_set_2 : decode cX5_set 2 = .ok (.putfield 68, 3) := by decide +kernel
theorem dX5_set_5 : decode cX5_set 5 = .ok (.iload_n 1, 1) := by decide +kernel
theorem dX5_set_6 : decode cX5_set 6 = .ok (.i2l, 1) := by decide +kernel
theorem dX5_set_7 : decode cX5_set 7 = .ok (.lconst 0, 1) := by decide +kernel
theorem dX5_set_8 : decode cX5_set 8 = .ok (.ldc2_w 209, 3) := by decide +kernel
theorem dX5_set_11 : decode cX5_set 11 = .ok (.invokestatic 74, 3) := by decide +kernel
theorem dX5_set_14 : decode cX5_set 14 = .ok (.ifCond .ne 10, 3) := by decide +kernel
theorem dX5_set_17 : decode cX5_set 17 = .ok (.aload_n 0, 1) := by decide +kernel
theorem dX5_set_18 : decode cX5_set 18 = .ok (.bipush (-2), 2) := by decide +kernel
theorem dX5_set_20 : decode cX5_set 20 = .ok (.invokevirtual 152, 3) := by decide +kernel
theorem dX5_set_23 : decode cX5_set 23 = .ok (.ireturn, 1) := by decide +kernel
theorem dX5_set_24 : decode cX5_set 24 = .ok (.iload_n 2, 1) := by decide +kernel
theorem dX5_set_25 : decode cX5_set 25 = .ok (.iload_n 1, 1) := by decide +kernel
theorem dX5_set_26 : decode cX5_set 26 = .ok (.iconst 1, 1) := by decide +kernel
theorem dX5_set_27 : decode cX5_set 27 = .ok (.if_icmp .ne 7, 3) := by decide +kernel
theorem dX5_set_30 : decode cX5_set 30 = .ok (.iconst 1, 1) := by decide +kernel
theorem dX5_set_31 : decode cX5_set 31 = .ok (.goto 4, 3) := by decide +kernel
theorem dX5_set_34 : decode cX5_set 34 = .ok (.iconst 0, 1) := by decide +kernel
theorem dX5_set_35 : decode cX5_set 35 = .ok (.if_icmp .lt 18, 3) := by decide +kernel
theorem dX5_set_38 : decode cX5_set 38 = .ok (.iload_n 2, 1) := by decide +kernel
theorem dX5_set_39 : decode cX5_set 39 = .ok (.iload_n 1, 1) := by decide +kernel
theorem dX5_set_40 : decode cX5_set 40 = .ok (.iconst 3, 1) := by decide +kernel
theorem dX5_set_41 : decode cX5_set 41 = .ok (.if_icmp .ne 8, 3) := by decide +kernel
theorem dX5_set_44 : decode cX5_set 44 = .ok (.bipush 99, 2) := by decide +kernel
theorem dX5_set_46 : decode cX5_set 46 = .ok (.goto 4, 3) := by decide +kernel
theorem dX5_set_49 : decode cX5_set 49 = .ok (.iconst 5, 1) := by decide +kernel
theorem dX5_set_50 : decode cX5_set 50 = .ok (.if_icmp .le 20, 3) := by decide +kernel
theorem dX5_set_53 : decode cX5_set 53 = .ok (.aload_n 0, 1) := by decide +kernel
theorem dX5_set_54 : decode cX5_set 54 = .ok (.iload_n 2, 1) := by decide +kernel
theorem dX5_set_55 : decode cX5_set 55 = .ok (.iconst 1, 1) := by decide +kernel
theorem dX5_set_56 : decode cX5_set 56 = .ok (.if_icmp .ge 8, 3) := by decide +kernel
theorem dX5_set_59 : decode cX5_set 59 = .ok (.bipush (-4), 2) := by decide +kernel
theorem dX5_set_61 : decode cX5_set 61 = .ok (.goto 5, 3) := by decide +kernel
theorem dX5_set_64 : decode cX5_set 64 = .ok (.bipush (-6), 2) := by decide +kernel
theorem dX5_set_66 : decode cX5_set 66 = .ok (.invokevirtual 152, 3) := by decide +kernel
theorem dX5_set_69 : decode cX5_set 69 = .ok (.ireturn, 1) := by decide +kernel
theorem dX5_set_70 : decode cX5_set 70 = .ok (.iload_n 1, 1) := by decide +kernel
theorem dX5_set_71 : decode cX5_set 71 = .ok (.ifCond .ne 10, 3) := by decide +kernel
theorem dX5_set_74 : decode cX5_set 74 = .ok (.aload_n 0, 1) := by decide +kernel
theorem dX5_set_75 : decode cX5_set 75 = .ok (.getfield 96, 3) := by decide +kernel
theorem dX5_set_78 : decode cX5_set 78 = .ok (.goto 31, 3) := by decide +kernel
theorem dX5_set_81 : decode cX5_set 81 = .ok (.iload_n 1, 1) := by decide +kernel
end
section
theorem dX5_set_82 : decode cX5_set 82 = .ok (.iconst 1, 1) := by decide +kernel
theorem dX5_set_83 : decode cX5_set 83 = .ok (.if_icmp .ne 10, 3) := by decide +kernel
theorem dX5_set_86 : decode cX5_set 86 = .ok (.aload_n 0, 1) := by decide +kernel
theorem dX5_set_87 : decode cX5_set 87 = .ok (.getfield 7, 3) := by decide +kernel
theorem dX5_set_90 : decode cX5_set 90 = .ok (.goto 19, 3) := by decide +kernel
theorem dX5_set_93 : decode cX5_set 93 = .ok (.iload_n 1, 1) := by decide +kernel
theorem dX5_set_94 : decode cX5_set 94 = .ok (.iconst 2, 1) := by decide +kernel
theorem dX5_set_95 : decode cX5_set 95 = .ok (.if_icmp .ne 10, 3) := by decide +kernel
theorem dX5_set_98 : decode cX5_set 98 = .ok (.aload_n 0, 1) := by decide +kernel
theorem dX5_set_99 : decode cX5_set 99 = .ok (.getfield 85, 3) := by decide +kernel
theorem dX5_set_102 : decode cX5_set 102 = .ok (.goto 7, 3) := by decide +kernel
theorem dX5_set_105 : decode cX5_set 105 = .ok (.aload_n 0, 1) := by decide +kernel
theorem dX5_set_106 : decode cX5_set 106 = .ok (.getfield 13, 3) := by decide +kernel
theorem dX5_set_109 : decode cX5_set 109 = .ok (.istore_n 3, 1) := by decide +kernel
theorem dX5_set_110 : decode cX5_set 110 = .ok (.aload_n 0, 1) := by decide +kernel
theorem dX5_set_111 : decode cX5_set 111 = .ok (.iload_n 1, 1) := by decide +kernel
theorem dX5_set_112 : decode cX5_set 112 = .ok (.ifCond .ne 7, 3) := by decide +kernel
theorem dX5_set_115 : decode cX5_set 115 = .ok (.iload_n 2, 1) := by decide +kernel
theorem dX5_set_116 : decode cX5_set 116 = .ok (.goto 7, 3) := by decide +kernel
theorem dX5_set_119 : decode cX5_set 119 = .ok (.aload_n 0, 1) := by decide +kernel
theorem dX5_set_120 : decode cX5_set 120 = .ok (.getfield 96, 3) := by decide +kernel
theorem dX5_set_123 : decode cX5_set 123 = .ok (.putfield 96, 3) := by decide +kernel
theorem dX5_set_126 : decode cX5_set 126 = .ok (.aload_n 0, 1) := by decide +kernel
theorem dX5_set_127 : decode cX5_set 127 = .ok (.iload_n 1, 1) := by decide +kernel
theorem dX5_set_128 : decode cX5_set 128 = .ok (.iconst 1, 1) := by decide +kernel
theorem dX5_set_129 : decode cX5_set 129 = .ok (.if_icmp .ne 7, 3) := by decide +kernel
theorem dX5_set_132 : decode cX5_set 132 = .ok (.iload_n 2, 1) := by decide +kernel
theorem dX5_set_133 : decode cX5_set 133 = .ok (.goto 7, 3) := by decide +kernel
theorem dX5_set_136 : decode cX5_set 136 = .ok (.aload_n 0, 1) := by decide +kernel
theorem dX5_set_137 : decode cX5_set 137 = .ok (.getfield 7, 3) := by decide +kernel
theorem dX5_set_140 : decode cX5_set 140 = .ok (.putfield 7, 3) := by decide +kernel
theorem dX5_set_143 : decode cX5_set 143 = .ok (.aload_n 0, 1) := by decide +kernel
theorem dX5_set_144 : decode cX5_set 144 = .ok (.iload_n 1, 1) := by decide +kernel
theorem dX5_set_145 : decode cX5_set 145 = .ok (.iconst 2, 1) := by decide +kernel
theorem dX5_set_146 : decode cX5_set 146 = .ok (.if_icmp .ne 7, 3) := by decide +kernel
theorem dX5_set_149 : decode cX5_set 149 = .ok (.iload_n 2, 1) := by decide +kernel
theorem dX5_set_150 : decode cX5_set 150 = .ok (.goto 7, 3) := by decide +kernel
theorem dX5_set_153 : decode cX5_set 153 = .ok (.aload_n 0, 1) := by decide +kernel
theorem dX5_set_154 : decode cX5_set 154 = .ok (.getfield 85, 3) := by decide +kernel
theorem dX5_set_157 : decode cX5_set 157 = .ok (.putfield 85, 3) := by decide +kernel
theorem dX5_set_160 : decode cX5_set 160 = .ok (.aload_n 0, 1) := by decide +kernel
theorem dX5_set_161 : decode cX5_set 161 = .ok (.iload_n 1, 1) := by decide +kernel
theorem dX5_set_162 : decode cX5_set 162 = .ok (.iconst 3, 1) := by decide +kernel
theorem dX5_set_163 : decode cX5_set 163 = .ok (.if_icmp .ne 7, 3) := by decide +kernel
theorem dX5_set_166 : decode cX5_set 166 = .ok (.iload_n 2, 1) := by decide +kernel
theorem dX5_set_167 : decode cX5_set 167 = .ok (.goto 7, 3) := by decide +kernel
theorem dX5_set_170 : decode cX5_set 170 = .ok (.aload_n 0, 1) := by decide +kernel
theorem dX5_set_171 : decode cX5_set 171 = .ok (.getfield 13, 3) := by decide +kernel
theorem dX5_set_174 : decode cX5_set 174 = .ok (.putfield 13, 3) := by decide +kernel
theorem dX5_set_177 : decode cX5_set 177 = .ok (.iload_n 3, 1) := by decide +kernel
theorem dX5_set_178 : decode cX5_set 178 = .ok (.ireturn, 1) := by decide +kernel
theorem dX5_wrongGift_0 : decode cX5_wrongGift 0 = .ok (.aload_n 0, 1) := by decide +kernel
theorem dX5_wrongGift_1 : decode cX5_wrongGift 1 = .ok (.iload_n 1, 1) := by decide +kernel
theorem dX5_wrongGift_2 : decode cX5_wrongGift 2 = .ok (.invokevirtual 199, 3) := by decide +kernel
theorem dX5_wrongGift_5 : decode cX5_wrongGift 5 = .ok (.ifCond .eq 22, 3) := by decide +kernel
theorem dX5_wrongGift_8 : decode cX5_wrongGift 8 = .ok (.aload_n 0, 1) := by decide +kernel
theorem dX5_wrongGift_9 : decode cX5_wrongGift 9 = .ok (.iload_n 2, 1) := by decide +kernel
theorem dX5_wrongGift_10 : decode cX5_wrongGift 10 = .ok (.invokevirtual 199, 3) := by decide +kernel
theorem dX5_wrongGift_13 : decode cX5_wrongGift 13 = .ok (.ifCond .ne 9, 3) := by decide +kernel
theorem dX5_wrongGift_16 : decode cX5_wrongGift 16 = .ok (.iload_n 2, 1) := by decide +kernel
theorem dX5_wrongGift_17 : decode cX5_wrongGift 17 = .ok (.bipush 9, 2) := by decide +kernel
theorem dX5_wrongGift_19 : decode cX5_wrongGift 19 = .ok (.if_icmp .ne 8, 3) := by decide +kernel
theorem dX5_wrongGift_22 : decode cX5_wrongGift 22 = .ok (.iload_n 1, 1) := by decide +kernel
theorem dX5_wrongGift_23 : decode cX5_wrongGift 23 = .ok (.iload_n 2, 1) := by decide +kernel
theorem dX5_wrongGift_24 : decode cX5_wrongGift 24 = .ok (.if_icmp .ne 5, 3) := by decide +kernel
theorem dX5_wrongGift_27 : decode cX5_wrongGift 27 = .ok (.iconst (-1), 1) := by decide +kernel
theorem dX5_wrongGift_28 : decode cX5_wrongGift 28 = .ok (.ireturn, 1) := by decide +kernel
theorem dX5_wrongGift_29 : decode cX5_wrongGift 29 = .ok (.iload_n 3, 1) := by decide +kernel
theorem dX5_wrongGift_30 : decode cX5_wrongGift 30 = .ok (.iconst 1, 1) := by decide +kernel
theorem dX5_wrongGift_31 : decode cX5_wrongGift 31 = .ok (.if_icmp .ge 8, 3) := by decide +kernel
theorem dX5_wrongGift_34 : decode cX5_wrongGift 34 = .ok (.bipush (-4), 2) := by decide +kernel
theorem dX5_wrongGift_36 : decode cX5_wrongGift 36 = .ok (.goto 19, 3) := by decide +kernel
theorem dX5_wrongGift_39 : decode cX5_wrongGift 39 = .ok (.iload_n 3, 1) := by decide +kernel
theorem dX5_wrongGift_40 : decode cX5_wrongGift 40 = .ok (.aload_n 0, 1) := by decide +kernel
theorem dX5_wrongGift_41 : decode cX5_wrongGift 41 = .ok (.getfield 29, 3) := by decide +kernel
theorem dX5_wrongGift_44 : decode cX5_wrongGift 44 = .ok (.iload_n 1, 1) := by decide +kernel
theorem dX5_wrongGift_45 : decode cX5_wrongGift 45 = .ok (.iaload, 1) := by decide +kernel
theorem dX5_wrongGift_46 : decode cX5_wrongGift 46 = .ok (.if_icmp .le 8, 3) := by decide +kernel
theorem dX5_wrongGift_49 : decode cX5_wrongGift 49 = .ok (.bipush (-6), 2) := by decide +kernel
theorem dX5_wrongGift_51 : decode cX5_wrongGift 51 = .ok (.goto 4, 3) := by decide +kernel
theorem dX5_wrongGift_54 : decode cX5_wrongGift 54 = .ok (.iconst 0, 1) := by decide +kernel
theorem dX5_wrongGift_55 : decode cX5_wrongGift 55 = .ok (.ireturn, 1) := by decide +kernel
theorem dX5_give_0 : decode cX5_give 0 = .ok (.aload_n 0, 1) := by decide +kernel
theorem dX5_give_1 : decode cX5_give 1 = .ok (.iconst 0, 1) := by decide +kernel
theorem dX5_give_2 : decode cX5_give 2 = .ok (.putfield 68, 3) := by decide +kernel
theorem dX5_give_5 : decode cX5_give 5 = .ok (.aload_n 0, 1) := by decide +kernel
theorem dX5_give_6 : decode cX5_give 6 = .ok (.iload_n 1, 1) := by decide +kernel
theorem dX5_give_7 : decode cX5_give 7 = .ok (.iload_n 2, 1) := by decide +kernel
theorem dX5_give_8 : decode cX5_give 8 = .ok (.iload_n 3, 1) := by decide +kernel
theorem dX5_give_9 : decode cX5_give 9 = .ok (.invokevirtual 211, 3) := by decide +kernel
theorem dX5_give_12 : decode cX5_give 12 = .ok (.istore 4, 2) := by decide +kernel
theorem dX5_give_14 : decode cX5_give 14 = .ok (.iload 4, 2) := by decide +kernel
theorem dX5_give_16 : decode cX5_give 16 = .ok (.ifCond .ge 10, 3) := by decide +kernel
theorem dX5_give_19 : decode cX5_give 19 = .ok (.aload_n 0, 1) := by decide +kernel
theorem dX5_give_20 : decode cX5_give 20 = .ok (.iload 4, 2) := by decide +kernel
theorem dX5_give_22 : decode cX5_give 22 = .ok (.invokevirtual 152, 3) := by decide +kernel
theorem dX5_give_25 : decode cX5_give 25 = .ok (.ireturn, 1) := by decide +kernel
theorem dX5_give_26 : decode cX5_give 26 = .ok (.aload_n 0, 1) := by decide +kernel
theorem dX5_give_27 : decode cX5_give 27 = .ok (.iload_n 1, 1) := by decide +kernel
theorem dX5_give_28 : decode cX5_give 28 = .ok (.iload_n 2, 1) := by decide +kernel
theorem dX5_give_29 : decode cX5_give 29 = .ok (.bipush 9, 2) := by decide +kernel
theorem dX5_give_31 : decode cX5_give 31 = .ok (.if_icmp .ne 8, 3) := by decide +kernel
theorem dX5_give_34 : decode cX5_give 34 = .ok (.bipush 6, 2) := by decide +kernel
theorem dX5_give_36 : decode cX5_give 36 = .ok (.goto 4, 3) := by decide +kernel
theorem dX5_give_39 : decode cX5_give 39 = .ok (.iload_n 2, 1) := by decide +kernel
theorem dX5_give_40 : decode cX5_give 40 = .ok (.iload_n 3, 1) := by decide +kernel
theorem dX5_give_41 : decode cX5_give 41 = .ok (.invokevirtual 115, 3) := by decide +kernel
theorem dX5_give_44 : decode cX5_give 44 = .ok (.aload_n 0, 1) := by decide +kernel
theorem dX5_give_45 : decode cX5_give 45 = .ok (.getfield 29, 3) := by decide +kernel
theorem dX5_give_48 : decode cX5_give 48 = .ok (.iload_n 1, 1) := by decide +kernel
theorem dX5_give_49 : decode cX5_give 49 = .ok (.iaload, 1) := by decide +kernel
theorem dX5_give_50 : decode cX5_give 50 = .ok (.ireturn, 1) := by decide +kernel
theorem dX5_evening_0 : decode cX5_evening 0 = .ok (.aload_n 0, 1) := by decide +kernel
theorem dX5_evening_1 : decode cX5_evening 1 = .ok (.iconst 0, 1) := by decide +kernel
theorem dX5_evening_2 : decode cX5_evening 2 = .ok (.putfield 68, 3) := by decide +kernel
theorem dX5_evening_5 : decode cX5_evening 5 = .ok (.aload_n 0, 1) := by decide +kernel
theorem dX5_evening_6 : decode cX5_evening 6 = .ok (.getfield 78, 3) := by decide +kernel
theorem dX5_evening_9 : decode cX5_evening 9 = .ok (.sipush 999, 3) := by decide +kernel
theorem dX5_evening_12 : decode cX5_evening 12 = .ok (.if_icmp .ne 10, 3) := by decide +kernel
theorem dX5_evening_15 : decode cX5_evening 15 = .ok (.aload_n 0, 1) := by decide +kernel
theorem dX5_evening_16 : decode cX5_evening 16 = .ok (.bipush (-6), 2) := by decide +kernel
theorem dX5_evening_18 : decode cX5_evening 18 = .ok (.invokevirtual 152, 3) := by decide +kernel
theorem dX5_evening_21 : decode cX5_evening 21 = .ok (.ireturn, 1) := by decide +kernel
theorem dX5_evening_22 : decode cX5_evening 22 = .ok (.aload_n 0, 1) := by decide +kernel
theorem dX5_evening_23 : decode cX5_evening 23 = .ok (.invokevirtual 129, 3) := by decide +kernel
theorem dX5_evening_26 : decode cX5_evening 26 = .ok (.aload_n 0, 1) := by decide +kernel
theorem dX5_evening_27 : decode cX5_evening 27 = .ok (.getfield 78, 3) := by decide +kernel
theorem dX5_evening_30 : decode cX5_evening 30 = .ok (.ireturn, 1) := by decide +kernel
theorem dX5_day_0 : decode cX5_day 0 = .ok (.aload_n 0, 1) := by decide +kernel
theorem dX5_day_1 : decode cX5_day 1 = .ok (.iconst 0, 1) := by decide +kernel
theorem dX5_day_2 : decode cX5_day 2 = .ok (.putfield 68, 3) := by decide +kernel
theorem dX5_day_5 : decode cX5_day 5 = .ok (.aload_n 0, 1) := by decide +kernel
theorem dX5_day_6 : decode cX5_day 6 = .ok (.getfield 78, 3) := by decide +kernel
theorem dX5_day_9 : decode cX5_day 9 = .ok (.sipush 999, 3) := by decide +kernel
theorem dX5_day_12 : decode cX5_day 12 = .ok (.if_icmp .ne 10, 3) := by decide +kernel
theorem dX5_day_15 : decode cX5_day 15 = .ok (.aload_n 0, 1) := by decide +kernel
theorem dX5_day_16 : decode cX5_day 16 = .ok (.bipush (-6), 2) := by decide +kernel
theorem dX5_day_18 : decode cX5_day 18 = .ok (.invokevirtual 152, 3) := by decide +kernel
theorem dX5_day_21 : decode cX5_day 21 = .ok (.ireturn, 1) := by decide +kernel
theorem dX5_day_22 : decode cX5_day 22 = .ok (.aload_n 0, 1) := by decide +kernel
theorem dX5_day_23 : decode cX5_day 23 = .ok (.invokevirtual 149, 3) := by decide +kernel
theorem dX5_day_26 : decode cX5_day 26 = .ok (.aload_n 0, 1) := by decide +kernel
theorem dX5_day_27 : decode cX5_day 27 = .ok (.getfield 78, 3) := by decide +kernel
theorem dX5_day_30 : decode cX5_day 30 = .ok (.ireturn, 1) := by decide +kernel
theorem dX5_gives_0 : decode cX5_gives 0 = .ok (.aload_n 0, 1) := by decide +kernel
theorem dX5_gives_1 : decode cX5_gives 1 = .ok (.iconst 0, 1) := by decide +kernel
theorem dX5_gives_2 : decode cX5_gives 2 = .ok (.putfield 68, 3) := by decide +kernel
theorem dX5_gives_5 : decode cX5_gives 5 = .ok (.aload_n 0, 1) := by decide +kernel
theorem dX5_gives_6 : decode cX5_gives 6 = .ok (.iload_n 1, 1) := by decide +kernel
theorem dX5_gives_7 : decode cX5_gives 7 = .ok (.invokevirtual 199, 3) := by decide +kernel
theorem dX5_gives_10 : decode cX5_gives 10 = .ok (.ifCond .eq 11, 3) := by decide +kernel
theorem dX5_gives_13 : decode cX5_gives 13 = .ok (.aload_n 0, 1) := by decide +kernel
theorem dX5_gives_14 : decode cX5_gives 14 = .ok (.iload_n 1, 1) := by decide +kernel
theorem dX5_gives_15 : decode cX5_gives 15 = .ok (.invokevirtual 112, 3) := by decide +kernel
theorem dX5_gives_18 : decode cX5_gives 18 = .ok (.goto 8, 3) := by decide +kernel
theorem dX5_gives_21 : decode cX5_gives 21 = .ok (.aload_n 0, 1) := by decide +kernel
theorem dX5_gives_22 : decode cX5_gives 22 = .ok (.iconst (-1), 1) := by decide +kernel
theorem dX5_gives_23 : decode cX5_gives 23 = .ok (.invokevirtual 152, 3) := by decide +kernel
theorem dX5_gives_26 : decode cX5_gives 26 = .ok (.ireturn, 1) := by decide +kernel
theorem dX5_wrongDays_0 : decode cX5_wrongDays 0 = .ok (.iload_n 0, 1) := by decide +kernel
theorem dX5_wrongDays_1 : decode cX5_wrongDays 1 = .ok (.iload_n 1, 1) := by decide +kernel
theorem dX5_wrongDays_2 : decode cX5_wrongDays 2 = .ok (.if_icmp .ge 8, 3) := by decide +kernel
theorem dX5_wrongDays_5 : decode cX5_wrongDays 5 = .ok (.bipush (-4), 2) := by decide +kernel
theorem dX5_wrongDays_7 : decode cX5_wrongDays 7 = .ok (.goto 14, 3) := by decide +kernel
theorem dX5_wrongDays_10 : decode cX5_wrongDays 10 = .ok (.iload_n 0, 1) := by decide +kernel
theorem dX5_wrongDays_11 : decode cX5_wrongDays 11 = .ok (.iload_n 2, 1) := by decide +kernel
theorem dX5_wrongDays_12 : decode cX5_wrongDays 12 = .ok (.if_icmp .le 8, 3) := by decide +kernel
theorem dX5_wrongDays_15 : decode cX5_wrongDays 15 = .ok (.bipush (-6), 2) := by decide +kernel
theorem dX5_wrongDays_17 : decode cX5_wrongDays 17 = .ok (.goto 4, 3) := by decide +kernel
theorem dX5_wrongDays_20 : decode cX5_wrongDays 20 = .ok (.iconst 0, 1) := by decide +kernel
theorem dX5_wrongDays_21 : decode cX5_wrongDays 21 = .ok (.ireturn, 1) := by decide +kernel
theorem dX5_wrongOne_0 : decode cX5_wrongOne 0 = .ok (.aload_n 0, 1) := by decide +kernel
theorem dX5_wrongOne_1 : decode cX5_wrongOne 1 = .ok (.iload_n 1, 1) := by decide +kernel
theorem dX5_wrongOne_2 : decode cX5_wrongOne 2 = .ok (.invokevirtual 199, 3) := by decide +kernel
theorem dX5_wrongOne_5 : decode cX5_wrongOne 5 = .ok (.ifCond .ne 7, 3) := by decide +kernel
theorem dX5_wrongOne_8 : decode cX5_wrongOne 8 = .ok (.iconst (-1), 1) := by decide +kernel
theorem dX5_wrongOne_9 : decode cX5_wrongOne 9 = .ok (.goto 10, 3) := by decide +kernel
theorem dX5_wrongOne_12 : decode cX5_wrongOne 12 = .ok (.iload_n 2, 1) := by decide +kernel
theorem dX5_wrongOne_13 : decode cX5_wrongOne 13 = .ok (.iload_n 3, 1) := by decide +kernel
theorem dX5_wrongOne_14 : decode cX5_wrongOne 14 = .ok (.iload 4, 2) := by decide +kernel
theorem dX5_wrongOne_16 : decode cX5_wrongOne 16 = .ok (.invokestatic 214, 3) := by decide +kernel
theorem dX5_wrongOne_19 : decode cX5_wrongOne 19 = .ok (.ireturn, 1) := by decide +kernel
theorem dX5_hasAfter_0 : decode cX5_hasAfter 0 = .ok (.aload_n 0, 1) := by decide +kernel
theorem dX5_hasAfter_1 : decode cX5_hasAfter 1 = .ok (.invokevirtual 217, 3) := by decide +kernel
theorem dX5_hasAfter_4 : decode cX5_hasAfter 4 = .ok (.aload_n 0, 1) := by decide +kernel
theorem dX5_hasAfter_5 : decode cX5_hasAfter 5 = .ok (.iload_n 2, 1) := by decide +kernel
theorem dX5_hasAfter_6 : decode cX5_hasAfter 6 = .ok (.invokevirtual 220, 3) := by decide +kernel
theorem dX5_hasAfter_9 : decode cX5_hasAfter 9 = .ok (.aload_n 0, 1) := by decide +kernel
theorem dX5_hasAfter_10 : decode cX5_hasAfter 10 = .ok (.getfield 29, 3) := by decide +kernel
theorem dX5_hasAfter_13 : decode cX5_hasAfter 13 = .ok (.iload_n 1, 1) := by decide +kernel
theorem dX5_hasAfter_14 : decode cX5_hasAfter 14 = .ok (.iaload, 1) := by decide +kernel
theorem dX5_hasAfter_15 : decode cX5_hasAfter 15 = .ok (.istore_n 3, 1) := by decide +kernel
theorem dX5_hasAfter_16 : decode cX5_hasAfter 16 = .ok (.aload_n 0, 1) := by decide +kernel
theorem dX5_hasAfter_17 : decode cX5_hasAfter 17 = .ok (.invokevirtual 223, 3) := by decide +kernel
theorem dX5_hasAfter_20 : decode cX5_hasAfter 20 = .ok (.iload_n 3, 1) := by decide +kernel
theorem dX5_hasAfter_21 : decode cX5_hasAfter 21 = .ok (.ireturn, 1) := by decide +kernel
theorem dX5_after_0 : decode cX5_after 0 = .ok (.aload_n 0, 1) := by decide +kernel
theorem dX5_after_1 : decode cX5_after 1 = .ok (.iconst 0, 1) := by decide +kernel
theorem dX5_after_2 : decode cX5_after 2 = .ok (.putfield 68, 3) := by decide +kernel
theorem dX5_after_5 : decode cX5_after 5 = .ok (.aload_n 0, 1) := by decide +kernel
theorem dX5_after_6 : decode cX5_after 6 = .ok (.iload_n 1, 1) := by decide +kernel
theorem dX5_after_7 : decode cX5_after 7 = .ok (.iload_n 2, 1) := by decide +kernel
theorem dX5_after_8 : decode cX5_after 8 = .ok (.iconst 0, 1) := by decide +kernel
theorem dX5_after_9 : decode cX5_after 9 = .ok (.bipush 60, 2) := by decide +kernel
theorem dX5_after_11 : decode cX5_after 11 = .ok (.invokevirtual 226, 3) := by decide +kernel
theorem dX5_after_14 : decode cX5_after 14 = .ok (.istore_n 3, 1) := by decide +kernel
theorem dX5_after_15 : decode cX5_after 15 = .ok (.iload_n 3, 1) := by decide +kernel
theorem dX5_after_16 : decode cX5_after 16 = .ok (.ifCond .ge 11, 3) := by decide +kernel
theorem dX5_after_19 : decode cX5_after 19 = .ok (.aload_n 0, 1) := by decide +kernel
theorem dX5_after_20 : decode cX5_after 20 = .ok (.iload_n 3, 1) := by decide +kernel
theorem dX5_after_21 : decode cX5_after 21 = .ok (.invokevirtual 152, 3) := by decide +kernel
theorem dX5_after_24 : decode cX5_after 24 = .ok (.goto 9, 3) := by decide +kernel
theorem dX5_after_27 : decode cX5_after 27 = .ok (.aload_n 0, 1) := by decide +kernel
theorem dX5_after_28 : decode cX5_after 28 = .ok (.iload_n 1, 1) := by decide +kernel
theorem dX5_after_29 : decode cX5_after 29 = .ok (.iload_n 2, 1) := by decide +kernel
theorem dX5_after_30 : decode cX5_after 30 = .ok (.invokevirtual 230, 3) := by decide +kernel
theorem dX5_after_33 : decode cX5_after 33 = .ok (.ireturn, 1) := by decide +kernel
theorem dX5_allAfter_0 : decode cX5_allAfter 0 = .ok (.aload_n 0, 1) := by decide +kernel
theorem dX5_allAfter_1 : decode cX5_allAfter 1 = .ok (.invokevirtual 217, 3) := by decide +kernel
theorem dX5_allAfter_4 : decode cX5_allAfter 4 = .ok (.aload_n 0, 1) := by decide +kernel
theorem dX5_allAfter_5 : decode cX5_allAfter 5 = .ok (.iload_n 1, 1) := by decide +kernel
theorem dX5_allAfter_6 : decode cX5_allAfter 6 = .ok (.invokevirtual 220, 3) := by decide +kernel
theorem dX5_allAfter_9 : decode cX5_allAfter 9 = .ok (.aload_n 0, 1) := by decide +kernel
theorem dX5_allAfter_10 : decode cX5_allAfter 10 = .ok (.invokevirtual 233, 3) := by decide +kernel
theorem dX5_allAfter_13 : decode cX5_allAfter 13 = .ok (.istore_n 2, 1) := by decide +kernel
theorem dX5_allAfter_14 : decode cX5_allAfter 14 = .ok (.aload_n 0, 1) := by decide +kernel
theorem dX5_allAfter_15 : decode cX5_allAfter 15 = .ok (.invokevirtual 223, 3) := by decide +kernel
theorem dX5_allAfter_18 : decode cX5_allAfter 18 = .ok (.iload_n 2, 1) := by decide +kernel
theorem dX5_allAfter_19 : decode cX5_allAfter 19 = .ok (.ireturn, 1) := by decide +kernel
theorem dX5_all__0 : decode cX5_all_ 0 = .ok (.aload_n 0, 1) := by decide +kernel
theorem dX5_all__1 : decode cX5_all_ 1 = .ok (.iconst 0, 1) := by decide +kernel
theorem dX5_all__2 : decode cX5_all_ 2 = .ok (.putfield 68, 3) := by decide +kernel
theorem dX5_all__5 : decode cX5_all_ 5 = .ok (.iload_n 1, 1) := by decide +kernel
theorem dX5_all__6 : decode cX5_all_ 6 = .ok (.iconst 0, 1) := by decide +kernel
theorem dX5_all__7 : decode cX5_all_ 7 = .ok (.bipush 60, 2) := by decide +kernel
theorem dX5_all__9 : decode cX5_all_ 9 = .ok (.invokestatic 214, 3) := by decide +kernel
theorem dX5_all__12 : decode cX5_all_ 12 = .ok (.istore_n 2, 1) := by decide +kernel
theorem dX5_all__13 : decode cX5_all_ 13 = .ok (.iload_n 2, 1) := by decide +kernel
theorem dX5_all__14 : decode cX5_all_ 14 = .ok (.ifCond .ge 11, 3) := by decide +kernel
theorem dX5_all__17 : decode cX5_all_ 17 = .ok (.aload_n 0, 1) := by decide +kernel
theorem dX5_all__18 : decode cX5_all_ 18 = .ok (.iload_n 2, 1) := by decide +kernel
theorem dX5_all__19 : decode cX5_all_ 19 = .ok (.invokevirtual 152, 3) := by decide +kernel
theorem dX5_all__22 : decode cX5_all_ 22 = .ok (.goto 8, 3) := by decide +kernel
theorem dX5_all__25 : decode cX5_all_ 25 = .ok (.aload_n 0, 1) := by decide +kernel
theorem dX5_all__26 : decode cX5_all_ 26 = .ok (.iload_n 1, 1) := by decide +kernel
theorem dX5_all__27 : decode cX5_all_ 27 = .ok (.invokevirtual 236, 3) := by decide +kernel
theorem dX5_all__30 : decode cX5_all_ 30 = .ok (.ireturn, 1) := by decide +kernel
theorem dX5_enough_0 : decode cX5_enough 0 = .ok (.aload_n 0, 1) := by decide +kernel
theorem dX5_enough_1 : decode cX5_enough 1 = .ok (.iconst 0, 1) := by decide +kernel
theorem dX5_enough_2 : decode cX5_enough 2 = .ok (.putfield 68, 3) := by decide +kernel
theorem dX5_enough_5 : decode cX5_enough 5 = .ok (.aload_n 0, 1) := by decide +kernel
theorem dX5_enough_6 : decode cX5_enough 6 = .ok (.iload_n 1, 1) := by decide +kernel
theorem dX5_enough_7 : decode cX5_enough 7 = .ok (.iload_n 2, 1) := by decide +kernel
theorem dX5_enough_8 : decode cX5_enough 8 = .ok (.iconst 0, 1) := by decide +kernel
theorem dX5_enough_9 : decode cX5_enough 9 = .ok (.sipush 9999, 3) := by decide +kernel
theorem dX5_enough_12 : decode cX5_enough 12 = .ok (.invokevirtual 226, 3) := by decide +kernel
theorem dX5_enough_15 : decode cX5_enough 15 = .ok (.istore_n 3, 1) := by decide +kernel
theorem dX5_enough_16 : decode cX5_enough 16 = .ok (.iload_n 3, 1) := by decide +kernel
theorem dX5_enough_17 : decode cX5_enough 17 = .ok (.ifCond .ge 9, 3) := by decide +kernel
theorem dX5_enough_20 : decode cX5_enough 20 = .ok (.aload_n 0, 1) := by decide +kernel
theorem dX5_enough_21 : decode cX5_enough 21 = .ok (.iload_n 3, 1) := by decide +kernel
theorem dX5_enough_22 : decode cX5_enough 22 = .ok (.invokevirtual 152, 3) := by decide +kernel
theorem dX5_enough_25 : decode cX5_enough 25 = .ok (.ireturn, 1) := by decide +kernel
theorem dX5_enough_26 : decode cX5_enough 26 = .ok (.aload_n 0, 1) := by decide +kernel
theorem dX5_enough_27 : decode cX5_enough 27 = .ok (.invokevirtual 217, 3) := by decide +kernel
theorem dX5_enough_30 : decode cX5_enough 30 = .ok (.iconst 0, 1) := by decide +kernel
theorem dX5_enough_31 : decode cX5_enough 31 = .ok (.istore 4, 2) := by decide +kernel
theorem dX5_enough_33 : decode cX5_enough 33 = .ok (.iload 4, 2) := by decide +kernel
theorem dX5_enough_35 : decode cX5_enough 35 = .ok (.bipush 60, 2) := by decide +kernel
theorem dX5_enough_37 : decode cX5_enough 37 = .ok (.if_icmp .gt 23, 3) := by decide +kernel
theorem dX5_enough_40 : decode cX5_enough 40 = .ok (.aload_n 0, 1) := by decide +kernel
theorem dX5_enough_41 : decode cX5_enough 41 = .ok (.getfield 29, 3) := by decide +kernel
theorem dX5_enough_44 : decode cX5_enough 44 = .ok (.iload_n 1, 1) := by decide +kernel
theorem dX5_enough_45 : decode cX5_enough 45 = .ok (.iaload, 1) := by decide +kernel
theorem dX5_enough_46 : decode cX5_enough 46 = .ok (.iload_n 2, 1) := by decide +kernel
theorem dX5_enough_47 : decode cX5_enough 47 = .ok (.if_icmp .ge 13, 3) := by decide +kernel
theorem dX5_enough_50 : decode cX5_enough 50 = .ok (.aload_n 0, 1) := by decide +kernel
theorem dX5_enough_51 : decode cX5_enough 51 = .ok (.invokevirtual 149, 3) := by decide +kernel
theorem dX5_enough_54 : decode cX5_enough 54 = .ok (.iinc 4 1, 3) := by decide +kernel
theorem dX5_enough_57 : decode cX5_enough 57 = .ok (.goto (-24), 3) := by decide +kernel
theorem dX5_enough_60 : decode cX5_enough 60 = .ok (.aload_n 0, 1) := by decide +kernel
theorem dX5_enough_61 : decode cX5_enough 61 = .ok (.invokevirtual 223, 3) := by decide +kernel
theorem dX5_enough_64 : decode cX5_enough 64 = .ok (.iload 4, 2) := by decide +kernel
theorem dX5_enough_66 : decode cX5_enough 66 = .ok (.bipush 60, 2) := by decide +kernel
theorem dX5_enough_68 : decode cX5_enough 68 = .ok (.if_icmp .gt 8, 3) := by decide +kernel
theorem dX5_enough_71 : decode cX5_enough 71 = .ok (.iload 4, 2) := by decide +kernel
theorem dX5_enough_73 : decode cX5_enough 73 = .ok (.goto 5, 3) := by decide +kernel
theorem dX5_enough_76 : decode cX5_enough 76 = .ok (.bipush (-9), 2) := by decide +kernel
theorem dX5_enough_78 : decode cX5_enough 78 = .ok (.ireturn, 1) := by decide +kernel
theorem dX5_richestNow_0 : decode cX5_richestNow 0 = .ok (.bipush (-9), 2) := by decide +kernel
theorem dX5_richestNow_2 : decode cX5_richestNow 2 = .ok (.istore_n 1, 1) := by decide +kernel
theorem dX5_richestNow_3 : decode cX5_richestNow 3 = .ok (.iconst 0, 1) := by decide +kernel
theorem dX5_richestNow_4 : decode cX5_richestNow 4 = .ok (.istore_n 2, 1) := by decide +kernel
theorem dX5_richestNow_5 : decode cX5_richestNow 5 = .ok (.iload_n 2, 1) := by decide +kernel
theorem dX5_richestNow_6 : decode cX5_richestNow 6 = .ok (.aload_n 0, 1) := by decide +kernel
theorem dX5_richestNow_7 : decode cX5_richestNow 7 = .ok (.getfield 71, 3) := by decide +kernel
theorem dX5_richestNow_10 : decode cX5_richestNow 10 = .ok (.if_icmp .ge 34, 3) := by decide +kernel
theorem dX5_richestNow_13 : decode cX5_richestNow 13 = .ok (.iload_n 1, 1) := by decide +kernel
theorem dX5_richestNow_14 : decode cX5_richestNow 14 = .ok (.ifCond .lt 18, 3) := by decide +kernel
theorem dX5_richestNow_17 : decode cX5_richestNow 17 = .ok (.aload_n 0, 1) := by decide +kernel
theorem dX5_richestNow_18 : decode cX5_richestNow 18 = .ok (.getfield 29, 3) := by decide +kernel
theorem dX5_richestNow_21 : decode cX5_richestNow 21 = .ok (.iload_n 2, 1) := by decide +kernel
theorem dX5_richestNow_22 : decode cX5_richestNow 22 = .ok (.iaload, 1) := by decide +kernel
theorem dX5_richestNow_23 : decode cX5_richestNow 23 = .ok (.aload_n 0, 1) := by decide +kernel
theorem dX5_richestNow_24 : decode cX5_richestNow 24 = .ok (.getfield 29, 3) := by decide +kernel
theorem dX5_richestNow_27 : decode cX5_richestNow 27 = .ok (.iload_n 1, 1) := by decide +kernel
theorem dX5_richestNow_28 : decode cX5_richestNow 28 = .ok (.iaload, 1) := by decide +kernel
theorem dX5_richestNow_29 : decode cX5_richestNow 29 = .ok (.if_icmp .le 7, 3) := by decide +kernel
theorem dX5_richestNow_32 : decode cX5_richestNow 32 = .ok (.iload_n 2, 1) := by decide +kernel
theorem dX5_richestNow_33 : decode cX5_richestNow 33 = .ok (.goto 4, 3) := by decide +kernel
theorem dX5_richestNow_36 : decode cX5_richestNow 36 = .ok (.iload_n 1, 1) := by decide +kernel
theorem dX5_richestNow_37 : decode cX5_richestNow 37 = .ok (.istore_n 1, 1) := by decide +kernel
theorem dX5_richestNow_38 : decode cX5_richestNow 38 = .ok (.iinc 2 1, 3) := by decide +kernel
theorem dX5_richestNow_41 : decode cX5_richestNow 41 = .ok (.goto (-36), 3) := by decide +kernel
theorem dX5_richestNow_44 : decode cX5_richestNow 44 = .ok (.iload_n 1, 1) := by decide +kernel
theorem dX5_richestNow_45 : decode cX5_richestNow 45 = .ok (.ireturn, 1) := by decide +kernel
theorem dX5_richest_0 : decode cX5_richest 0 = .ok (.aload_n 0, 1) := by decide +kernel
theorem dX5_richest_1 : decode cX5_richest 1 = .ok (.iconst 0, 1) := by decide +kernel
theorem dX5_richest_2 : decode cX5_richest 2 = .ok (.putfield 68, 3) := by decide +kernel
theorem dX5_richest_5 : decode cX5_richest 5 = .ok (.iload_n 1, 1) := by decide +kernel
theorem dX5_richest_6 : decode cX5_richest 6 = .ok (.iconst 0, 1) := by decide +kernel
theorem dX5_richest_7 : decode cX5_richest 7 = .ok (.bipush 60, 2) := by decide +kernel
theorem dX5_richest_9 : decode cX5_richest 9 = .ok (.invokestatic 214, 3) := by decide +kernel
theorem dX5_richest_12 : decode cX5_richest 12 = .ok (.istore_n 2, 1) := by decide +kernel
theorem dX5_richest_13 : decode cX5_richest 13 = .ok (.iload_n 2, 1) := by decide +kernel
theorem dX5_richest_14 : decode cX5_richest 14 = .ok (.ifCond .ge 9, 3) := by decide +kernel
theorem dX5_richest_17 : decode cX5_richest 17 = .ok (.aload_n 0, 1) := by decide +kernel
theorem dX5_richest_18 : decode cX5_richest 18 = .ok (.iload_n 2, 1) := by decide +kernel
theorem dX5_richest_19 : decode cX5_richest 19 = .ok (.invokevirtual 152, 3) := by decide +kernel
theorem dX5_richest_22 : decode cX5_richest 22 = .ok (.ireturn, 1) := by decide +kernel
theorem dX5_richest_23 : decode cX5_richest 23 = .ok (.aload_n 0, 1) := by decide +kernel
theorem dX5_richest_24 : decode cX5_richest 24 = .ok (.invokevirtual 217, 3) := by decide +kernel
theorem dX5_richest_27 : decode cX5_richest 27 = .ok (.aload_n 0, 1) := by decide +kernel
theorem dX5_richest_28 : decode cX5_richest 28 = .ok (.iload_n 1, 1) := by decide +kernel
theorem dX5_richest_29 : decode cX5_richest 29 = .ok (.invokevirtual 220, 3) := by decide +kernel
theorem dX5_richest_32 : decode cX5_richest 32 = .ok (.aload_n 0, 1) := by decide +kernel
theorem dX5_richest_33 : decode cX5_richest 33 = .ok (.invokevirtual 239, 3) := by decide +kernel
theorem dX5_richest_36 : decode cX5_richest 36 = .ok (.istore_n 3, 1) := by decide +kernel
theorem dX5_richest_37 : decode cX5_richest 37 = .ok (.aload_n 0, 1) := by decide +kernel
theorem dX5_richest_38 : decode cX5_richest 38 = .ok (.invokevirtual 223, 3) := by decide +kernel
theorem dX5_richest_41 : decode cX5_richest 41 = .ok (.iload_n 3, 1) := by decide +kernel
theorem dX5_richest_42 : decode cX5_richest 42 = .ok (.ireturn, 1) := by decide +kernel
theorem dX5_lost_0 : decode cX5_lost 0 = .ok (.aload_n 0, 1) := by decide +kernel
theorem dX5_lost_1 : decode cX5_lost 1 = .ok (.iconst 0, 1) := by decide +kernel
theorem dX5_lost_2 : decode cX5_lost 2 = .ok (.putfield 68, 3) := by decide +kernel
theorem dX5_lost_5 : decode cX5_lost 5 = .ok (.iload_n 1, 1) := by decide +kernel
theorem dX5_lost_6 : decode cX5_lost 6 = .ok (.iconst 0, 1) := by decide +kernel
theorem dX5_lost_7 : decode cX5_lost 7 = .ok (.bipush 60, 2) := by decide +kernel
theorem dX5_lost_9 : decode cX5_lost 9 = .ok (.invokestatic 214, 3) := by decide +kernel
theorem dX5_lost_12 : decode cX5_lost 12 = .ok (.istore_n 2, 1) := by decide +kernel
theorem dX5_lost_13 : decode cX5_lost 13 = .ok (.iload_n 2, 1) := by decide +kernel
theorem dX5_lost_14 : decode cX5_lost 14 = .ok (.ifCond .ge 9, 3) := by decide +kernel
theorem dX5_lost_17 : decode cX5_lost 17 = .ok (.aload_n 0, 1) := by decide +kernel
theorem dX5_lost_18 : decode cX5_lost 18 = .ok (.iload_n 2, 1) := by decide +kernel
theorem dX5_lost_19 : decode cX5_lost 19 = .ok (.invokevirtual 152, 3) := by decide +kernel
theorem dX5_lost_22 : decode cX5_lost 22 = .ok (.ireturn, 1) := by decide +kernel
theorem dX5_lost_23 : decode cX5_lost 23 = .ok (.aload_n 0, 1) := by decide +kernel
theorem dX5_lost_24 : decode cX5_lost 24 = .ok (.invokevirtual 217, 3) := by decide +kernel
theorem dX5_lost_27 : decode cX5_lost 27 = .ok (.aload_n 0, 1) := by decide +kernel
theorem dX5_lost_28 : decode cX5_lost 28 = .ok (.iconst 0, 1) := by decide +kernel
theorem dX5_lost_29 : decode cX5_lost 29 = .ok (.putfield 122, 3) := by decide +kernel
theorem dX5_lost_32 : decode cX5_lost 32 = .ok (.aload_n 0, 1) := by decide +kernel
theorem dX5_lost_33 : decode cX5_lost 33 = .ok (.iload_n 1, 1) := by decide +kernel
theorem dX5_lost_34 : decode cX5_lost 34 = .ok (.invokevirtual 220, 3) := by decide +kernel
theorem dX5_lost_37 : decode cX5_lost 37 = .ok (.aload_n 0, 1) := by decide +kernel
theorem dX5_lost_38 : decode cX5_lost 38 = .ok (.getfield 122, 3) := by decide +kernel
theorem dX5_lost_41 : decode cX5_lost 41 = .ok (.istore_n 3, 1) := by decide +kernel
theorem dX5_lost_42 : decode cX5_lost 42 = .ok (.aload_n 0, 1) := by decide +kernel
theorem dX5_lost_43 : decode cX5_lost 43 = .ok (.invokevirtual 223, 3) := by decide +kernel
theorem dX5_lost_46 : decode cX5_lost 46 = .ok (.iload_n 3, 1) := by decide +kernel
theorem dX5_lost_47 : decode cX5_lost 47 = .ok (.ireturn, 1) := by decide +kernel
theorem dX5_grows_0 : decode cX5_grows 0 = .ok (.aload_n 0, 1) := by decide +kernel
theorem dX5_grows_1 : decode cX5_grows 1 = .ok (.iconst 0, 1) := by decide +kernel
theorem dX5_grows_2 : decode cX5_grows 2 = .ok (.putfield 68, 3) := by decide +kernel
theorem dX5_grows_5 : decode cX5_grows 5 = .ok (.iload_n 1, 1) := by decide +kernel
theorem dX5_grows_6 : decode cX5_grows 6 = .ok (.iconst 1, 1) := by decide +kernel
theorem dX5_grows_7 : decode cX5_grows 7 = .ok (.bipush 60, 2) := by decide +kernel
theorem dX5_grows_9 : decode cX5_grows 9 = .ok (.invokestatic 214, 3) := by decide +kernel
theorem dX5_grows_12 : decode cX5_grows 12 = .ok (.istore_n 2, 1) := by decide +kernel
theorem dX5_grows_13 : decode cX5_grows 13 = .ok (.iload_n 2, 1) := by decide +kernel
theorem dX5_grows_14 : decode cX5_grows 14 = .ok (.ifCond .ge 9, 3) := by decide +kernel
theorem dX5_grows_17 : decode cX5_grows 17 = .ok (.aload_n 0, 1) := by decide +kernel
theorem dX5_grows_18 : decode cX5_grows 18 = .ok (.iload_n 2, 1) := by decide +kernel
theorem dX5_grows_19 : decode cX5_grows 19 = .ok (.invokevirtual 152, 3) := by decide +kernel
theorem dX5_grows_22 : decode cX5_grows 22 = .ok (.ireturn, 1) := by decide +kernel
theorem dX5_grows_23 : decode cX5_grows 23 = .ok (.aload_n 0, 1) := by decide +kernel
theorem dX5_grows_24 : decode cX5_grows 24 = .ok (.invokevirtual 233, 3) := by decide +kernel
theorem dX5_grows_27 : decode cX5_grows 27 = .ok (.istore_n 3, 1) := by decide +kernel
theorem dX5_grows_28 : decode cX5_grows 28 = .ok (.aload_n 0, 1) := by decide +kernel
theorem dX5_grows_29 : decode cX5_grows 29 = .ok (.iload_n 1, 1) := by decide +kernel
theorem dX5_grows_30 : decode cX5_grows 30 = .ok (.invokevirtual 236, 3) := by decide +kernel
theorem dX5_grows_33 : decode cX5_grows 33 = .ok (.istore 4, 2) := by decide +kernel
theorem dX5_grows_35 : decode cX5_grows 35 = .ok (.iload 4, 2) := by decide +kernel
theorem dX5_grows_37 : decode cX5_grows 37 = .ok (.iload_n 3, 1) := by decide +kernel
theorem dX5_grows_38 : decode cX5_grows 38 = .ok (.if_icmp .le 7, 3) := by decide +kernel
theorem dX5_grows_41 : decode cX5_grows 41 = .ok (.iconst 1, 1) := by decide +kernel
theorem dX5_grows_42 : decode cX5_grows 42 = .ok (.goto 14, 3) := by decide +kernel
theorem dX5_grows_45 : decode cX5_grows 45 = .ok (.iload 4, 2) := by decide +kernel
theorem dX5_grows_47 : decode cX5_grows 47 = .ok (.iload_n 3, 1) := by decide +kernel
theorem dX5_grows_48 : decode cX5_grows 48 = .ok (.if_icmp .ne 7, 3) := by decide +kernel
theorem dX5_grows_51 : decode cX5_grows 51 = .ok (.iconst 0, 1) := by decide +kernel
theorem dX5_grows_52 : decode cX5_grows 52 = .ok (.goto 4, 3) := by decide +kernel
theorem dX5_grows_55 : decode cX5_grows 55 = .ok (.iconst 2, 1) := by decide +kernel
theorem dX5_grows_56 : decode cX5_grows 56 = .ok (.ireturn, 1) := by decide +kernel
theorem dX5_rest_0 : decode cX5_rest 0 = .ok (.aload_n 0, 1) := by decide +kernel
theorem dX5_rest_1 : decode cX5_rest 1 = .ok (.iconst 0, 1) := by decide +kernel
theorem dX5_rest_2 : decode cX5_rest 2 = .ok (.putfield 68, 3) := by decide +kernel
theorem dX5_rest_5 : decode cX5_rest 5 = .ok (.aload_n 0, 1) := by decide +kernel
theorem dX5_rest_6 : decode cX5_rest 6 = .ok (.invokevirtual 217, 3) := by decide +kernel
theorem dX5_rest_9 : decode cX5_rest 9 = .ok (.iconst 0, 1) := by decide +kernel
theorem dX5_rest_10 : decode cX5_rest 10 = .ok (.istore_n 1, 1) := by decide +kernel
theorem dX5_rest_11 : decode cX5_rest 11 = .ok (.bipush (-9), 2) := by decide +kernel
theorem dX5_rest_13 : decode cX5_rest 13 = .ok (.istore_n 2, 1) := by decide +kernel
theorem dX5_rest_14 : decode cX5_rest 14 = .ok (.iconst 0, 1) := by decide +kernel
theorem dX5_rest_15 : decode cX5_rest 15 = .ok (.istore_n 3, 1) := by decide +kernel
theorem dX5_rest_16 : decode cX5_rest 16 = .ok (.iload_n 3, 1) := by decide +kernel
theorem dX5_rest_17 : decode cX5_rest 17 = .ok (.bipush 60, 2) := by decide +kernel
theorem dX5_rest_19 : decode cX5_rest 19 = .ok (.if_icmp .ge 76, 3) := by decide +kernel
theorem dX5_rest_22 : decode cX5_rest 22 = .ok (.iload_n 2, 1) := by decide +kernel
theorem dX5_rest_23 : decode cX5_rest 23 = .ok (.ifCond .ge 72, 3) := by decide +kernel
theorem dX5_rest_26 : decode cX5_rest 26 = .ok (.iconst 0, 1) := by decide +kernel
theorem dX5_rest_27 : decode cX5_rest 27 = .ok (.istore 4, 2) := by decide +kernel
theorem dX5_rest_29 : decode cX5_rest 29 = .ok (.iload 4, 2) := by decide +kernel
theorem dX5_rest_31 : decode cX5_rest 31 = .ok (.bipush 6, 2) := by decide +kernel
theorem dX5_rest_33 : decode cX5_rest 33 = .ok (.if_icmp .ge 23, 3) := by decide +kernel
theorem dX5_rest_36 : decode cX5_rest 36 = .ok (.aload_n 0, 1) := by decide +kernel
theorem dX5_rest_37 : decode cX5_rest 37 = .ok (.getfield 56, 3) := by decide +kernel
theorem dX5_rest_40 : decode cX5_rest 40 = .ok (.iload 4, 2) := by decide +kernel
theorem dX5_rest_42 : decode cX5_rest 42 = .ok (.aload_n 0, 1) := by decide +kernel
theorem dX5_rest_43 : decode cX5_rest 43 = .ok (.getfield 29, 3) := by decide +kernel
theorem dX5_rest_46 : decode cX5_rest 46 = .ok (.iload 4, 2) := by decide +kernel
theorem dX5_rest_48 : decode cX5_rest 48 = .ok (.iaload, 1) := by decide +kernel
theorem dX5_rest_49 : decode cX5_rest 49 = .ok (.iastore, 1) := by decide +kernel
theorem dX5_rest_50 : decode cX5_rest 50 = .ok (.iinc 4 1, 3) := by decide +kernel
theorem dX5_rest_53 : decode cX5_rest 53 = .ok (.goto (-24), 3) := by decide +kernel
theorem dX5_rest_56 : decode cX5_rest 56 = .ok (.aload_n 0, 1) := by decide +kernel
theorem dX5_rest_57 : decode cX5_rest 57 = .ok (.invokevirtual 149, 3) := by decide +kernel
theorem dX5_rest_60 : decode cX5_rest 60 = .ok (.aload_n 0, 1) := by decide +kernel
theorem dX5_rest_61 : decode cX5_rest 61 = .ok (.invokevirtual 242, 3) := by decide +kernel
theorem dX5_rest_64 : decode cX5_rest 64 = .ok (.ifCond .eq 9, 3) := by decide +kernel
theorem dX5_rest_67 : decode cX5_rest 67 = .ok (.iload_n 1, 1) := by decide +kernel
theorem dX5_rest_68 : decode cX5_rest 68 = .ok (.iconst 1, 1) := by decide +kernel
theorem dX5_rest_69 : decode cX5_rest 69 = .ok (.iadd, 1) := by decide +kernel
theorem dX5_rest_70 : decode cX5_rest 70 = .ok (.goto 4, 3) := by decide +kernel
theorem dX5_rest_73 : decode cX5_rest 73 = .ok (.iconst 0, 1) := by decide +kernel
theorem dX5_rest_74 : decode cX5_rest 74 = .ok (.istore_n 1, 1) := by decide +kernel
theorem dX5_rest_75 : decode cX5_rest 75 = .ok (.iload_n 1, 1) := by decide +kernel
theorem dX5_rest_76 : decode cX5_rest 76 = .ok (.iconst 2, 1) := by decide +kernel
theorem dX5_rest_77 : decode cX5_rest 77 = .ok (.if_icmp .ne 9, 3) := by decide +kernel
theorem dX5_rest_80 : decode cX5_rest 80 = .ok (.iload_n 3, 1) := by decide +kernel
theorem dX5_rest_81 : decode cX5_rest 81 = .ok (.iconst 1, 1) := by decide +kernel
theorem dX5_rest_82 : decode cX5_rest 82 = .ok (.isub, 1) := by decide +kernel
theorem dX5_rest_83 : decode cX5_rest 83 = .ok (.goto 5, 3) := by decide +kernel
theorem dX5_rest_86 : decode cX5_rest 86 = .ok (.bipush (-9), 2) := by decide +kernel
theorem dX5_rest_88 : decode cX5_rest 88 = .ok (.istore_n 2, 1) := by decide +kernel
theorem dX5_rest_89 : decode cX5_rest 89 = .ok (.iinc 3 1, 3) := by decide +kernel
theorem dX5_rest_92 : decode cX5_rest 92 = .ok (.goto (-76), 3) := by decide +kernel
theorem dX5_rest_95 : decode cX5_rest 95 = .ok (.aload_n 0, 1) := by decide +kernel
theorem dX5_rest_96 : decode cX5_rest 96 = .ok (.invokevirtual 223, 3) := by decide +kernel
theorem dX5_rest_99 : decode cX5_rest 99 = .ok (.iload_n 2, 1) := by decide +kernel
theorem dX5_rest_100 : decode cX5_rest 100 = .ok (.ireturn, 1) := by decide +kernel
theorem dX5_isAsThen_0 : decode cX5_isAsThen 0 = .ok (.iconst 1, 1) := by decide +kernel
theorem dX5_isAsThen_1 : decode cX5_isAsThen 1 = .ok (.istore_n 1, 1) := by decide +kernel
theorem dX5_isAsThen_2 : decode cX5_isAsThen 2 = .ok (.iconst 0, 1) := by decide +kernel
theorem dX5_isAsThen_3 : decode cX5_isAsThen 3 = .ok (.istore_n 2, 1) := by decide +kernel
theorem dX5_isAsThen_4 : decode cX5_isAsThen 4 = .ok (.iload_n 2, 1) := by decide +kernel
theorem dX5_isAsThen_5 : decode cX5_isAsThen 5 = .ok (.bipush 6, 2) := by decide +kernel
theorem dX5_isAsThen_7 : decode cX5_isAsThen 7 = .ok (.if_icmp .ge 34, 3) := by decide +kernel
theorem dX5_isAsThen_10 : decode cX5_isAsThen 10 = .ok (.iload_n 1, 1) := by decide +kernel
theorem dX5_isAsThen_11 : decode cX5_isAsThen 11 = .ok (.ifCond .eq 22, 3) := by decide +kernel
theorem dX5_isAsThen_14 : decode cX5_isAsThen 14 = .ok (.aload_n 0, 1) := by decide +kernel
theorem dX5_isAsThen_15 : decode cX5_isAsThen 15 = .ok (.getfield 29, 3) := by decide +kernel
theorem dX5_isAsThen_18 : decode cX5_isAsThen 18 = .ok (.iload_n 2, 1) := by decide +kernel
theorem dX5_isAsThen_19 : decode cX5_isAsThen 19 = .ok (.iaload, 1) := by decide +kernel
theorem dX5_isAsThen_20 : decode cX5_isAsThen 20 = .ok (.aload_n 0, 1) := by decide +kernel
theorem dX5_isAsThen_21 : decode cX5_isAsThen 21 = .ok (.getfield 56, 3) := by decide +kernel
theorem dX5_isAsThen_24 : decode cX5_isAsThen 24 = .ok (.iload_n 2, 1) := by decide +kernel
theorem dX5_isAsThen_25 : decode cX5_isAsThen 25 = .ok (.iaload, 1) := by decide +kernel
theorem dX5_isAsThen_26 : decode cX5_isAsThen 26 = .ok (.if_icmp .ne 7, 3) := by decide +kernel
theorem dX5_isAsThen_29 : decode cX5_isAsThen 29 = .ok (.iconst 1, 1) := by decide +kernel
theorem dX5_isAsThen_30 : decode cX5_isAsThen 30 = .ok (.goto 4, 3) := by decide +kernel
theorem dX5_isAsThen_33 : decode cX5_isAsThen 33 = .ok (.iconst 0, 1) := by decide +kernel
theorem dX5_isAsThen_34 : decode cX5_isAsThen 34 = .ok (.istore_n 1, 1) := by decide +kernel
theorem dX5_isAsThen_35 : decode cX5_isAsThen 35 = .ok (.iinc 2 1, 3) := by decide +kernel
theorem dX5_isAsThen_38 : decode cX5_isAsThen 38 = .ok (.goto (-34), 3) := by decide +kernel
theorem dX5_isAsThen_41 : decode cX5_isAsThen 41 = .ok (.iload_n 1, 1) := by decide +kernel
theorem dX5_isAsThen_42 : decode cX5_isAsThen 42 = .ok (.ireturn, 1) := by decide +kernel
theorem dX5_choose_0 : decode cX5_choose 0 = .ok (.iload_n 2, 1) := by decide +kernel
theorem dX5_choose_1 : decode cX5_choose 1 = .ok (.ifCond .ne 7, 3) := by decide +kernel
theorem dX5_choose_4 : decode cX5_choose 4 = .ok (.iconst 0, 1) := by decide +kernel
theorem dX5_choose_5 : decode cX5_choose 5 = .ok (.goto 25, 3) := by decide +kernel
theorem dX5_choose_8 : decode cX5_choose 8 = .ok (.iload_n 2, 1) := by decide +kernel
theorem dX5_choose_9 : decode cX5_choose 9 = .ok (.iconst 1, 1) := by decide +kernel
theorem dX5_choose_10 : decode cX5_choose 10 = .ok (.if_icmp .ne 14, 3) := by decide +kernel
theorem dX5_choose_13 : decode cX5_choose 13 = .ok (.aload_n 0, 1) := by decide +kernel
theorem dX5_choose_14 : decode cX5_choose 14 = .ok (.getfield 29, 3) := by decide +kernel
theorem dX5_choose_17 : decode cX5_choose 17 = .ok (.iload_n 1, 1) := by decide +kernel
theorem dX5_choose_18 : decode cX5_choose 18 = .ok (.iaload, 1) := by decide +kernel
theorem dX5_choose_19 : decode cX5_choose 19 = .ok (.iconst 2, 1) := by decide +kernel
theorem dX5_choose_20 : decode cX5_choose 20 = .ok (.idiv, 1) := by decide +kernel
theorem dX5_choose_21 : decode cX5_choose 21 = .ok (.goto 9, 3) := by decide +kernel
theorem dX5_choose_24 : decode cX5_choose 24 = .ok (.aload_n 0, 1) := by decide +kernel
theorem dX5_choose_25 : decode cX5_choose 25 = .ok (.getfield 29, 3) := by decide +kernel
theorem dX5_choose_28 : decode cX5_choose 28 = .ok (.iload_n 1, 1) := by decide +kernel
theorem dX5_choose_29 : decode cX5_choose 29 = .ok (.iaload, 1) := by decide +kernel
theorem dX5_choose_30 : decode cX5_choose 30 = .ok (.istore_n 3, 1) := by decide +kernel
theorem dX5_choose_31 : decode cX5_choose 31 = .ok (.iload_n 3, 1) := by decide +kernel
theorem dX5_choose_32 : decode cX5_choose 32 = .ok (.ifCond .le 51, 3) := by decide +kernel
theorem dX5_choose_35 : decode cX5_choose 35 = .ok (.aload_n 0, 1) := by decide +kernel
theorem dX5_choose_36 : decode cX5_choose 36 = .ok (.iload_n 1, 1) := by decide +kernel
theorem dX5_choose_37 : decode cX5_choose 37 = .ok (.aload_n 0, 1) := by decide +kernel
theorem dX5_choose_38 : decode cX5_choose 38 = .ok (.getfield 26, 3) := by decide +kernel
theorem dX5_choose_41 : decode cX5_choose 41 = .ok (.iload_n 1, 1) := by decide +kernel
theorem dX5_choose_42 : decode cX5_choose 42 = .ok (.iaload, 1) := by decide +kernel
theorem dX5_choose_43 : decode cX5_choose 43 = .ok (.iload_n 1, 1) := by decide +kernel
theorem dX5_choose_44 : decode cX5_choose 44 = .ok (.if_icmp .eq 14, 3) := by decide +kernel
theorem dX5_choose_47 : decode cX5_choose 47 = .ok (.aload_n 0, 1) := by decide +kernel
theorem dX5_choose_48 : decode cX5_choose 48 = .ok (.getfield 26, 3) := by decide +kernel
theorem dX5_choose_51 : decode cX5_choose 51 = .ok (.iload_n 1, 1) := by decide +kernel
theorem dX5_choose_52 : decode cX5_choose 52 = .ok (.iaload, 1) := by decide +kernel
theorem dX5_choose_53 : decode cX5_choose 53 = .ok (.bipush 9, 2) := by decide +kernel
theorem dX5_choose_55 : decode cX5_choose 55 = .ok (.if_icmp .ne 8, 3) := by decide +kernel
theorem dX5_choose_58 : decode cX5_choose 58 = .ok (.bipush 6, 2) := by decide +kernel
theorem dX5_choose_60 : decode cX5_choose 60 = .ok (.goto 9, 3) := by decide +kernel
theorem dX5_choose_63 : decode cX5_choose 63 = .ok (.aload_n 0, 1) := by decide +kernel
theorem dX5_choose_64 : decode cX5_choose 64 = .ok (.getfield 26, 3) := by decide +kernel
theorem dX5_choose_67 : decode cX5_choose 67 = .ok (.iload_n 1, 1) := by decide +kernel
theorem dX5_choose_68 : decode cX5_choose 68 = .ok (.iaload, 1) := by decide +kernel
theorem dX5_choose_69 : decode cX5_choose 69 = .ok (.iload_n 3, 1) := by decide +kernel
theorem dX5_choose_70 : decode cX5_choose 70 = .ok (.invokevirtual 115, 3) := by decide +kernel
theorem dX5_choose_73 : decode cX5_choose 73 = .ok (.aload_n 0, 1) := by decide +kernel
theorem dX5_choose_74 : decode cX5_choose 74 = .ok (.dup, 1) := by decide +kernel
theorem dX5_choose_75 : decode cX5_choose 75 = .ok (.getfield 246, 3) := by decide +kernel
theorem dX5_choose_78 : decode cX5_choose 78 = .ok (.iload_n 3, 1) := by decide +kernel
theorem dX5_choose_79 : decode cX5_choose 79 = .ok (.iadd, 1) := by decide +kernel
theorem dX5_choose_80 : decode cX5_choose 80 = .ok (.putfield 246, 3) := by decide +kernel
theorem dX5_choose_83 : decode cX5_choose 83 = .ok (.return_, 1) := by decide +kernel
theorem dX5_power_0 : decode cX5_power 0 = .ok (.iconst 1, 1) := by decide +kernel
theorem dX5_power_1 : decode cX5_power 1 = .ok (.istore_n 1, 1) := by decide +kernel
theorem dX5_power_2 : decode cX5_power 2 = .ok (.iconst 0, 1) := by decide +kernel
theorem dX5_power_3 : decode cX5_power 3 = .ok (.istore_n 2, 1) := by decide +kernel
theorem dX5_power_4 : decode cX5_power 4 = .ok (.iload_n 2, 1) := by decide +kernel
theorem dX5_power_5 : decode cX5_power 5 = .ok (.iload_n 0, 1) := by decide +kernel
theorem dX5_power_6 : decode cX5_power 6 = .ok (.if_icmp .ge 13, 3) := by decide +kernel
theorem dX5_power_9 : decode cX5_power 9 = .ok (.iload_n 1, 1) := by decide +kernel
theorem dX5_power_10 : decode cX5_power 10 = .ok (.iconst 3, 1) := by decide +kernel
theorem dX5_power_11 : decode cX5_power 11 = .ok (.imul, 1) := by decide +kernel
theorem dX5_power_12 : decode cX5_power 12 = .ok (.istore_n 1, 1) := by decide +kernel
theorem dX5_power_13 : decode cX5_power 13 = .ok (.iinc 2 1, 3) := by decide +kernel
theorem dX5_power_16 : decode cX5_power 16 = .ok (.goto (-12), 3) := by decide +kernel
theorem dX5_power_19 : decode cX5_power 19 = .ok (.iload_n 1, 1) := by decide +kernel
theorem dX5_power_20 : decode cX5_power 20 = .ok (.ireturn, 1) := by decide +kernel
theorem dX5_byRow_0 : decode cX5_byRow 0 = .ok (.aload_n 0, 1) := by decide +kernel
theorem dX5_byRow_1 : decode cX5_byRow 1 = .ok (.invokevirtual 217, 3) := by decide +kernel
theorem dX5_byRow_4 : decode cX5_byRow 4 = .ok (.aload_n 0, 1) := by decide +kernel
theorem dX5_byRow_5 : decode cX5_byRow 5 = .ok (.iconst 0, 1) := by decide +kernel
theorem dX5_byRow_6 : decode cX5_byRow 6 = .ok (.putfield 246, 3) := by decide +kernel
theorem dX5_byRow_9 : decode cX5_byRow 9 = .ok (.iload_n 2, 1) := by decide +kernel
theorem dX5_byRow_10 : decode cX5_byRow 10 = .ok (.invokestatic 249, 3) := by decide +kernel
theorem dX5_byRow_13 : decode cX5_byRow 13 = .ok (.istore 4, 2) := by decide +kernel
theorem dX5_byRow_15 : decode cX5_byRow 15 = .ok (.iconst 0, 1) := by decide +kernel
theorem dX5_byRow_16 : decode cX5_byRow 16 = .ok (.istore 5, 2) := by decide +kernel
theorem dX5_byRow_18 : decode cX5_byRow 18 = .ok (.iload 5, 2) := by decide +kernel
theorem dX5_byRow_20 : decode cX5_byRow 20 = .ok (.iload_n 2, 1) := by decide +kernel
theorem dX5_byRow_21 : decode cX5_byRow 21 = .ok (.if_icmp .ge 63, 3) := by decide +kernel
theorem dX5_byRow_24 : decode cX5_byRow 24 = .ok (.iload 4, 2) := by decide +kernel
theorem dX5_byRow_26 : decode cX5_byRow 26 = .ok (.iconst 3, 1) := by decide +kernel
theorem dX5_byRow_27 : decode cX5_byRow 27 = .ok (.idiv, 1) := by decide +kernel
theorem dX5_byRow_28 : decode cX5_byRow 28 = .ok (.istore 4, 2) := by decide +kernel
theorem dX5_byRow_30 : decode cX5_byRow 30 = .ok (.iconst 0, 1) := by decide +kernel
theorem dX5_byRow_31 : decode cX5_byRow 31 = .ok (.istore 6, 2) := by decide +kernel
theorem dX5_byRow_33 : decode cX5_byRow 33 = .ok (.iload 6, 2) := by decide +kernel
theorem dX5_byRow_35 : decode cX5_byRow 35 = .ok (.aload_n 0, 1) := by decide +kernel
theorem dX5_byRow_36 : decode cX5_byRow 36 = .ok (.getfield 71, 3) := by decide +kernel
theorem dX5_byRow_39 : decode cX5_byRow 39 = .ok (.if_icmp .ge 35, 3) := by decide +kernel
theorem dX5_byRow_42 : decode cX5_byRow 42 = .ok (.iload 6, 2) := by decide +kernel
theorem dX5_byRow_44 : decode cX5_byRow 44 = .ok (.iload_n 1, 1) := by decide +kernel
theorem dX5_byRow_45 : decode cX5_byRow 45 = .ok (.if_icmp .ne 17, 3) := by decide +kernel
theorem dX5_byRow_48 : decode cX5_byRow 48 = .ok (.aload_n 0, 1) := by decide +kernel
theorem dX5_byRow_49 : decode cX5_byRow 49 = .ok (.iload_n 1, 1) := by decide +kernel
theorem dX5_byRow_50 : decode cX5_byRow 50 = .ok (.iload_n 3, 1) := by decide +kernel
theorem dX5_byRow_51 : decode cX5_byRow 51 = .ok (.iload 4, 2) := by decide +kernel
theorem dX5_byRow_53 : decode cX5_byRow 53 = .ok (.idiv, 1) := by decide +kernel
theorem dX5_byRow_54 : decode cX5_byRow 54 = .ok (.iconst 3, 1) := by decide +kernel
theorem dX5_byRow_55 : decode cX5_byRow 55 = .ok (.irem, 1) := by decide +kernel
theorem dX5_byRow_56 : decode cX5_byRow 56 = .ok (.invokevirtual 252, 3) := by decide +kernel
theorem dX5_byRow_59 : decode cX5_byRow 59 = .ok (.goto 9, 3) := by decide +kernel
theorem dX5_byRow_62 : decode cX5_byRow 62 = .ok (.aload_n 0, 1) := by decide +kernel
theorem dX5_byRow_63 : decode cX5_byRow 63 = .ok (.iload 6, 2) := by decide +kernel
theorem dX5_byRow_65 : decode cX5_byRow 65 = .ok (.invokevirtual 125, 3) := by decide +kernel
theorem dX5_byRow_68 : decode cX5_byRow 68 = .ok (.iinc 6 1, 3) := by decide +kernel
theorem dX5_byRow_71 : decode cX5_byRow 71 = .ok (.goto (-38), 3) := by decide +kernel
theorem dX5_byRow_74 : decode cX5_byRow 74 = .ok (.aload_n 0, 1) := by decide +kernel
theorem dX5_byRow_75 : decode cX5_byRow 75 = .ok (.invokevirtual 129, 3) := by decide +kernel
theorem dX5_byRow_78 : decode cX5_byRow 78 = .ok (.iinc 5 1, 3) := by decide +kernel
theorem dX5_byRow_81 : decode cX5_byRow 81 = .ok (.goto (-63), 3) := by decide +kernel
theorem dX5_byRow_84 : decode cX5_byRow 84 = .ok (.aload_n 0, 1) := by decide +kernel
theorem dX5_byRow_85 : decode cX5_byRow 85 = .ok (.getfield 29, 3) := by decide +kernel
theorem dX5_byRow_88 : decode cX5_byRow 88 = .ok (.iload_n 1, 1) := by decide +kernel
theorem dX5_byRow_89 : decode cX5_byRow 89 = .ok (.iaload, 1) := by decide +kernel
theorem dX5_byRow_90 : decode cX5_byRow 90 = .ok (.istore 5, 2) := by decide +kernel
theorem dX5_byRow_92 : decode cX5_byRow 92 = .ok (.aload_n 0, 1) := by decide +kernel
theorem dX5_byRow_93 : decode cX5_byRow 93 = .ok (.invokevirtual 223, 3) := by decide +kernel
theorem dX5_byRow_96 : decode cX5_byRow 96 = .ok (.iload 5, 2) := by decide +kernel
theorem dX5_byRow_98 : decode cX5_byRow 98 = .ok (.ireturn, 1) := by decide +kernel
theorem dX5_findMost_0 : decode cX5_findMost 0 = .ok (.aload_n 0, 1) := by decide +kernel
theorem dX5_findMost_1 : decode cX5_findMost 1 = .ok (.iconst 0, 1) := by decide +kernel
theorem dX5_findMost_2 : decode cX5_findMost 2 = .ok (.putfield 256, 3) := by decide +kernel
theorem dX5_findMost_5 : decode cX5_findMost 5 = .ok (.aload_n 0, 1) := by decide +kernel
theorem dX5_findMost_6 : decode cX5_findMost 6 = .ok (.iconst (-1), 1) := by decide +kernel
theorem dX5_findMost_7 : decode cX5_findMost 7 = .ok (.putfield 259, 3) := by decide +kernel
theorem dX5_findMost_10 : decode cX5_findMost 10 = .ok (.iconst 0, 1) := by decide +kernel
theorem dX5_findMost_11 : decode cX5_findMost 11 = .ok (.istore_n 3, 1) := by decide +kernel
theorem dX5_findMost_12 : decode cX5_findMost 12 = .ok (.iload_n 3, 1) := by decide +kernel
theorem dX5_findMost_13 : decode cX5_findMost 13 = .ok (.iload_n 2, 1) := by decide +kernel
theorem dX5_findMost_14 : decode cX5_findMost 14 = .ok (.invokestatic 249, 3) := by decide +kernel
theorem dX5_findMost_17 : decode cX5_findMost 17 = .ok (.if_icmp .ge 61, 3) := by decide +kernel
theorem dX5_findMost_20 : decode cX5_findMost 20 = .ok (.aload_n 0, 1) := by decide +kernel
theorem dX5_findMost_21 : decode cX5_findMost 21 = .ok (.iload_n 1, 1) := by decide +kernel
theorem dX5_findMost_22 : decode cX5_findMost 22 = .ok (.iload_n 2, 1) := by decide +kernel
theorem dX5_findMost_23 : decode cX5_findMost 23 = .ok (.iload_n 3, 1) := by decide +kernel
theorem dX5_findMost_24 : decode cX5_findMost 24 = .ok (.invokevirtual 262, 3) := by decide +kernel
theorem dX5_findMost_27 : decode cX5_findMost 27 = .ok (.istore 4, 2) := by decide +kernel
theorem dX5_findMost_29 : decode cX5_findMost 29 = .ok (.aload_n 0, 1) := by decide +kernel
theorem dX5_findMost_30 : decode cX5_findMost 30 = .ok (.iload 4, 2) := by decide +kernel
theorem dX5_findMost_32 : decode cX5_findMost 32 = .ok (.aload_n 0, 1) := by decide +kernel
theorem dX5_findMost_33 : decode cX5_findMost 33 = .ok (.getfield 259, 3) := by decide +kernel
theorem dX5_findMost_36 : decode cX5_findMost 36 = .ok (.if_icmp .le 7, 3) := by decide +kernel
theorem dX5_findMost_39 : decode cX5_findMost 39 = .ok (.iload_n 3, 1) := by decide +kernel
theorem dX5_findMost_40 : decode cX5_findMost 40 = .ok (.goto 7, 3) := by decide +kernel
theorem dX5_findMost_43 : decode cX5_findMost 43 = .ok (.aload_n 0, 1) := by decide +kernel
theorem dX5_findMost_44 : decode cX5_findMost 44 = .ok (.getfield 256, 3) := by decide +kernel
theorem dX5_findMost_47 : decode cX5_findMost 47 = .ok (.putfield 256, 3) := by decide +kernel
theorem dX5_findMost_50 : decode cX5_findMost 50 = .ok (.aload_n 0, 1) := by decide +kernel
theorem dX5_findMost_51 : decode cX5_findMost 51 = .ok (.iload 4, 2) := by decide +kernel
theorem dX5_findMost_53 : decode cX5_findMost 53 = .ok (.aload_n 0, 1) := by decide +kernel
theorem dX5_findMost_54 : decode cX5_findMost 54 = .ok (.getfield 259, 3) := by decide +kernel
theorem dX5_findMost_57 : decode cX5_findMost 57 = .ok (.if_icmp .le 8, 3) := by decide +kernel
theorem dX5_findMost_60 : decode cX5_findMost 60 = .ok (.iload 4, 2) := by decide +kernel
theorem dX5_findMost_62 : decode cX5_findMost 62 = .ok (.goto 7, 3) := by decide +kernel
theorem dX5_findMost_65 : decode cX5_findMost 65 = .ok (.aload_n 0, 1) := by decide +kernel
theorem dX5_findMost_66 : decode cX5_findMost 66 = .ok (.getfield 259, 3) := by decide +kernel
theorem dX5_findMost_69 : decode cX5_findMost 69 = .ok (.putfield 259, 3) := by decide +kernel
theorem dX5_findMost_72 : decode cX5_findMost 72 = .ok (.iinc 3 1, 3) := by decide +kernel
theorem dX5_findMost_75 : decode cX5_findMost 75 = .ok (.goto (-63), 3) := by decide +kernel
theorem dX5_findMost_78 : decode cX5_findMost 78 = .ok (.return_, 1) := by decide +kernel
theorem dX5_most_0 : decode cX5_most 0 = .ok (.aload_n 0, 1) := by decide +kernel
theorem dX5_most_1 : decode cX5_most 1 = .ok (.iconst 0, 1) := by decide +kernel
theorem dX5_most_2 : decode cX5_most 2 = .ok (.putfield 68, 3) := by decide +kernel
theorem dX5_most_5 : decode cX5_most 5 = .ok (.aload_n 0, 1) := by decide +kernel
theorem dX5_most_6 : decode cX5_most 6 = .ok (.iload_n 1, 1) := by decide +kernel
theorem dX5_most_7 : decode cX5_most 7 = .ok (.iload_n 2, 1) := by decide +kernel
theorem dX5_most_8 : decode cX5_most 8 = .ok (.iconst 1, 1) := by decide +kernel
theorem dX5_most_9 : decode cX5_most 9 = .ok (.bipush 6, 2) := by decide +kernel
theorem dX5_most_11 : decode cX5_most 11 = .ok (.invokevirtual 226, 3) := by decide +kernel
theorem dX5_most_14 : decode cX5_most 14 = .ok (.istore_n 3, 1) := by decide +kernel
theorem dX5_most_15 : decode cX5_most 15 = .ok (.iload_n 3, 1) := by decide +kernel
theorem dX5_most_16 : decode cX5_most 16 = .ok (.ifCond .ge 9, 3) := by decide +kernel
theorem dX5_most_19 : decode cX5_most 19 = .ok (.aload_n 0, 1) := by decide +kernel
theorem dX5_most_20 : decode cX5_most 20 = .ok (.iload_n 3, 1) := by decide +kernel
theorem dX5_most_21 : decode cX5_most 21 = .ok (.invokevirtual 152, 3) := by decide +kernel
theorem dX5_most_24 : decode cX5_most 24 = .ok (.ireturn, 1) := by decide +kernel
theorem dX5_most_25 : decode cX5_most 25 = .ok (.aload_n 0, 1) := by decide +kernel
theorem dX5_most_26 : decode cX5_most 26 = .ok (.iload_n 1, 1) := by decide +kernel
theorem dX5_most_27 : decode cX5_most 27 = .ok (.iload_n 2, 1) := by decide +kernel
theorem dX5_most_28 : decode cX5_most 28 = .ok (.invokevirtual 265, 3) := by decide +kernel
theorem dX5_most_31 : decode cX5_most 31 = .ok (.aload_n 0, 1) := by decide +kernel
theorem dX5_most_32 : decode cX5_most 32 = .ok (.getfield 259, 3) := by decide +kernel
theorem dX5_most_35 : decode cX5_most 35 = .ok (.ireturn, 1) := by decide +kernel
theorem dX5_choice_0 : decode cX5_choice 0 = .ok (.aload_n 0, 1) := by decide +kernel
theorem dX5_choice_1 : decode cX5_choice 1 = .ok (.iconst 0, 1) := by decide +kernel
theorem dX5_choice_2 : decode cX5_choice 2 = .ok (.putfield 68, 3) := by decide +kernel
theorem dX5_choice_5 : decode cX5_choice 5 = .ok (.aload_n 0, 1) := by decide +kernel
theorem dX5_choice_6 : decode cX5_choice 6 = .ok (.iload_n 1, 1) := by decide +kernel
theorem dX5_choice_7 : decode cX5_choice 7 = .ok (.invokevirtual 199, 3) := by decide +kernel
theorem dX5_choice_10 : decode cX5_choice 10 = .ok (.ifCond .ne 7, 3) := by decide +kernel
theorem dX5_choice_13 : decode cX5_choice 13 = .ok (.iconst (-1), 1) := by decide +kernel
theorem dX5_choice_14 : decode cX5_choice 14 = .ok (.goto 29, 3) := by decide +kernel
theorem dX5_choice_17 : decode cX5_choice 17 = .ok (.iload_n 2, 1) := by decide +kernel
theorem dX5_choice_18 : decode cX5_choice 18 = .ok (.iconst 1, 1) := by decide +kernel
theorem dX5_choice_19 : decode cX5_choice 19 = .ok (.if_icmp .lt 7, 3) := by decide +kernel
theorem dX5_choice_22 : decode cX5_choice 22 = .ok (.iload_n 3, 1) := by decide +kernel
theorem dX5_choice_23 : decode cX5_choice 23 = .ok (.ifCond .ge 8, 3) := by decide +kernel
theorem dX5_choice_26 : decode cX5_choice 26 = .ok (.bipush (-4), 2) := by decide +kernel
theorem dX5_choice_28 : decode cX5_choice 28 = .ok (.goto 15, 3) := by decide +kernel
theorem dX5_choice_31 : decode cX5_choice 31 = .ok (.iload_n 2, 1) := by decide +kernel
theorem dX5_choice_32 : decode cX5_choice 32 = .ok (.bipush 6, 2) := by decide +kernel
theorem dX5_choice_34 : decode cX5_choice 34 = .ok (.if_icmp .le 8, 3) := by decide +kernel
theorem dX5_choice_37 : decode cX5_choice 37 = .ok (.bipush (-6), 2) := by decide +kernel
theorem dX5_choice_39 : decode cX5_choice 39 = .ok (.goto 4, 3) := by decide +kernel
theorem dX5_choice_42 : decode cX5_choice 42 = .ok (.iconst 0, 1) := by decide +kernel
theorem dX5_choice_43 : decode cX5_choice 43 = .ok (.istore 4, 2) := by decide +kernel
theorem dX5_choice_45 : decode cX5_choice 45 = .ok (.iload 4, 2) := by decide +kernel
theorem dX5_choice_47 : decode cX5_choice 47 = .ok (.ifCond .ge 10, 3) := by decide +kernel
theorem dX5_choice_50 : decode cX5_choice 50 = .ok (.aload_n 0, 1) := by decide +kernel
theorem dX5_choice_51 : decode cX5_choice 51 = .ok (.iload 4, 2) := by decide +kernel
theorem dX5_choice_53 : decode cX5_choice 53 = .ok (.invokevirtual 152, 3) := by decide +kernel
theorem dX5_choice_56 : decode cX5_choice 56 = .ok (.ireturn, 1) := by decide +kernel
theorem dX5_choice_57 : decode cX5_choice 57 = .ok (.aload_n 0, 1) := by decide +kernel
theorem dX5_choice_58 : decode cX5_choice 58 = .ok (.iload_n 1, 1) := by decide +kernel
theorem dX5_choice_59 : decode cX5_choice 59 = .ok (.iload_n 2, 1) := by decide +kernel
theorem dX5_choice_60 : decode cX5_choice 60 = .ok (.invokevirtual 265, 3) := by decide +kernel
theorem dX5_choice_63 : decode cX5_choice 63 = .ok (.iload_n 3, 1) := by decide +kernel
theorem dX5_choice_64 : decode cX5_choice 64 = .ok (.iload_n 2, 1) := by decide +kernel
theorem dX5_choice_65 : decode cX5_choice 65 = .ok (.if_icmp .ge 21, 3) := by decide +kernel
theorem dX5_choice_68 : decode cX5_choice 68 = .ok (.aload_n 0, 1) := by decide +kernel
theorem dX5_choice_69 : decode cX5_choice 69 = .ok (.getfield 256, 3) := by decide +kernel
theorem dX5_choice_72 : decode cX5_choice 72 = .ok (.iload_n 2, 1) := by decide +kernel
theorem dX5_choice_73 : decode cX5_choice 73 = .ok (.iconst 1, 1) := by decide +kernel
theorem dX5_choice_74 : decode cX5_choice 74 = .ok (.isub, 1) := by decide +kernel
theorem dX5_choice_75 : decode cX5_choice 75 = .ok (.iload_n 3, 1) := by decide +kernel
theorem dX5_choice_76 : decode cX5_choice 76 = .ok (.isub, 1) := by decide +kernel
theorem dX5_choice_77 : decode cX5_choice 77 = .ok (.invokestatic 249, 3) := by decide +kernel
theorem dX5_choice_80 : decode cX5_choice 80 = .ok (.idiv, 1) := by decide +kernel
theorem dX5_choice_81 : decode cX5_choice 81 = .ok (.iconst 3, 1) := by decide +kernel
theorem dX5_choice_82 : decode cX5_choice 82 = .ok (.irem, 1) := by decide +kernel
theorem dX5_choice_83 : decode cX5_choice 83 = .ok (.goto 5, 3) := by decide +kernel
theorem dX5_choice_86 : decode cX5_choice 86 = .ok (.bipush (-9), 2) := by decide +kernel
theorem dX5_choice_88 : decode cX5_choice 88 = .ok (.ireturn, 1) := by decide +kernel
theorem dX5_gap_0 : decode cX5_gap 0 = .ok (.aload_n 0, 1) := by decide +kernel
theorem dX5_gap_1 : decode cX5_gap 1 = .ok (.iconst 0, 1) := by decide +kernel
theorem dX5_gap_2 : decode cX5_gap 2 = .ok (.putfield 68, 3) := by decide +kernel
theorem dX5_gap_5 : decode cX5_gap 5 = .ok (.aload_n 0, 1) := by decide +kernel
theorem dX5_gap_6 : decode cX5_gap 6 = .ok (.iload_n 1, 1) := by decide +kernel
theorem dX5_gap_7 : decode cX5_gap 7 = .ok (.iload_n 2, 1) := by decide +kernel
theorem dX5_gap_8 : decode cX5_gap 8 = .ok (.iconst 1, 1) := by decide +kernel
theorem dX5_gap_9 : decode cX5_gap 9 = .ok (.bipush 6, 2) := by decide +kernel
theorem dX5_gap_11 : decode cX5_gap 11 = .ok (.invokevirtual 226, 3) := by decide +kernel
theorem dX5_gap_14 : decode cX5_gap 14 = .ok (.istore_n 3, 1) := by decide +kernel
theorem dX5_gap_15 : decode cX5_gap 15 = .ok (.iload_n 3, 1) := by decide +kernel
theorem dX5_gap_16 : decode cX5_gap 16 = .ok (.ifCond .ge 13, 3) := by decide +kernel
theorem dX5_gap_19 : decode cX5_gap 19 = .ok (.ldc_w 268, 3) := by decide +kernel
theorem dX5_gap_22 : decode cX5_gap 22 = .ok (.aload_n 0, 1) := by decide +kernel
theorem dX5_gap_23 : decode cX5_gap 23 = .ok (.iload_n 3, 1) := by decide +kernel
theorem dX5_gap_24 : decode cX5_gap 24 = .ok (.invokevirtual 152, 3) := by decide +kernel
theorem dX5_gap_27 : decode cX5_gap 27 = .ok (.isub, 1) := by decide +kernel
theorem dX5_gap_28 : decode cX5_gap 28 = .ok (.ireturn, 1) := by decide +kernel
theorem dX5_gap_29 : decode cX5_gap 29 = .ok (.aload_n 0, 1) := by decide +kernel
theorem dX5_gap_30 : decode cX5_gap 30 = .ok (.iload_n 1, 1) := by decide +kernel
theorem dX5_gap_31 : decode cX5_gap 31 = .ok (.iload_n 2, 1) := by decide +kernel
theorem dX5_gap_32 : decode cX5_gap 32 = .ok (.invokevirtual 265, 3) := by decide +kernel
theorem dX5_gap_35 : decode cX5_gap 35 = .ok (.aload_n 0, 1) := by decide +kernel
theorem dX5_gap_36 : decode cX5_gap 36 = .ok (.getfield 259, 3) := by decide +kernel
theorem dX5_gap_39 : decode cX5_gap 39 = .ok (.aload_n 0, 1) := by decide +kernel
theorem dX5_gap_40 : decode cX5_gap 40 = .ok (.iload_n 1, 1) := by decide +kernel
theorem dX5_gap_41 : decode cX5_gap 41 = .ok (.iload_n 2, 1) := by decide +kernel
theorem dX5_gap_42 : decode cX5_gap 42 = .ok (.invokevirtual 230, 3) := by decide +kernel
theorem dX5_gap_45 : decode cX5_gap 45 = .ok (.isub, 1) := by decide +kernel
theorem dX5_gap_46 : decode cX5_gap 46 = .ok (.ireturn, 1) := by decide +kernel
theorem dX5_feast_0 : decode cX5_feast 0 = .ok (.aload_n 0, 1) := by decide +kernel
theorem dX5_feast_1 : decode cX5_feast 1 = .ok (.iconst 0, 1) := by decide +kernel
theorem dX5_feast_2 : decode cX5_feast 2 = .ok (.putfield 68, 3) := by decide +kernel
theorem dX5_feast_5 : decode cX5_feast 5 = .ok (.aload_n 0, 1) := by decide +kernel
theorem dX5_feast_6 : decode cX5_feast 6 = .ok (.iload_n 1, 1) := by decide +kernel
theorem dX5_feast_7 : decode cX5_feast 7 = .ok (.invokevirtual 199, 3) := by decide +kernel
theorem dX5_feast_10 : decode cX5_feast 10 = .ok (.ifCond .ne 7, 3) := by decide +kernel
theorem dX5_feast_13 : decode cX5_feast 13 = .ok (.iconst (-1), 1) := by decide +kernel
theorem dX5_feast_14 : decode cX5_feast 14 = .ok (.goto 36, 3) := by decide +kernel
theorem dX5_feast_17 : decode cX5_feast 17 = .ok (.iload_n 2, 1) := by decide +kernel
theorem dX5_feast_18 : decode cX5_feast 18 = .ok (.iconst 1, 1) := by decide +kernel
theorem dX5_feast_19 : decode cX5_feast 19 = .ok (.if_icmp .lt 7, 3) := by decide +kernel
theorem dX5_feast_22 : decode cX5_feast 22 = .ok (.iload_n 3, 1) := by decide +kernel
theorem dX5_feast_23 : decode cX5_feast 23 = .ok (.ifCond .ge 8, 3) := by decide +kernel
theorem dX5_feast_26 : decode cX5_feast 26 = .ok (.bipush (-4), 2) := by decide +kernel
theorem dX5_feast_28 : decode cX5_feast 28 = .ok (.goto 22, 3) := by decide +kernel
theorem dX5_feast_31 : decode cX5_feast 31 = .ok (.iload_n 2, 1) := by decide +kernel
theorem dX5_feast_32 : decode cX5_feast 32 = .ok (.bipush 6, 2) := by decide +kernel
theorem dX5_feast_34 : decode cX5_feast 34 = .ok (.if_icmp .gt 10, 3) := by decide +kernel
theorem dX5_feast_37 : decode cX5_feast 37 = .ok (.iload_n 3, 1) := by decide +kernel
theorem dX5_feast_38 : decode cX5_feast 38 = .ok (.sipush 9999, 3) := by decide +kernel
theorem dX5_feast_41 : decode cX5_feast 41 = .ok (.if_icmp .le 8, 3) := by decide +kernel
theorem dX5_feast_44 : decode cX5_feast 44 = .ok (.bipush (-6), 2) := by decide +kernel
theorem dX5_feast_46 : decode cX5_feast 46 = .ok (.goto 4, 3) := by decide +kernel
theorem dX5_feast_49 : decode cX5_feast 49 = .ok (.iconst 0, 1) := by decide +kernel
theorem dX5_feast_50 : decode cX5_feast 50 = .ok (.istore 4, 2) := by decide +kernel
theorem dX5_feast_52 : decode cX5_feast 52 = .ok (.iload 4, 2) := by decide +kernel
theorem dX5_feast_54 : decode cX5_feast 54 = .ok (.ifCond .ge 10, 3) := by decide +kernel
theorem dX5_feast_57 : decode cX5_feast 57 = .ok (.aload_n 0, 1) := by decide +kernel
theorem dX5_feast_58 : decode cX5_feast 58 = .ok (.iload 4, 2) := by decide +kernel
theorem dX5_feast_60 : decode cX5_feast 60 = .ok (.invokevirtual 152, 3) := by decide +kernel
theorem dX5_feast_63 : decode cX5_feast 63 = .ok (.ireturn, 1) := by decide +kernel
theorem dX5_feast_64 : decode cX5_feast 64 = .ok (.bipush (-9), 2) := by decide +kernel
theorem dX5_feast_66 : decode cX5_feast 66 = .ok (.istore 5, 2) := by decide +kernel
theorem dX5_feast_68 : decode cX5_feast 68 = .ok (.iconst 0, 1) := by decide +kernel
theorem dX5_feast_69 : decode cX5_feast 69 = .ok (.istore 6, 2) := by decide +kernel
theorem dX5_feast_71 : decode cX5_feast 71 = .ok (.iload 6, 2) := by decide +kernel
theorem dX5_feast_73 : decode cX5_feast 73 = .ok (.iload_n 2, 1) := by decide +kernel
theorem dX5_feast_74 : decode cX5_feast 74 = .ok (.invokestatic 249, 3) := by decide +kernel
theorem dX5_feast_77 : decode cX5_feast 77 = .ok (.if_icmp .ge 58, 3) := by decide +kernel
theorem dX5_feast_80 : decode cX5_feast 80 = .ok (.aload_n 0, 1) := by decide +kernel
theorem dX5_feast_81 : decode cX5_feast 81 = .ok (.iload_n 1, 1) := by decide +kernel
theorem dX5_feast_82 : decode cX5_feast 82 = .ok (.iload_n 2, 1) := by decide +kernel
theorem dX5_feast_83 : decode cX5_feast 83 = .ok (.iload 6, 2) := by decide +kernel
theorem dX5_feast_85 : decode cX5_feast 85 = .ok (.invokevirtual 262, 3) := by decide +kernel
theorem dX5_feast_88 : decode cX5_feast 88 = .ok (.iload_n 3, 1) := by decide +kernel
theorem dX5_feast_89 : decode cX5_feast 89 = .ok (.if_icmp .lt 7, 3) := by decide +kernel
theorem dX5_feast_92 : decode cX5_feast 92 = .ok (.iconst 1, 1) := by decide +kernel
theorem dX5_feast_93 : decode cX5_feast 93 = .ok (.goto 4, 3) := by decide +kernel
theorem dX5_feast_96 : decode cX5_feast 96 = .ok (.iconst 0, 1) := by decide +kernel
theorem dX5_feast_97 : decode cX5_feast 97 = .ok (.istore 7, 2) := by decide +kernel
theorem dX5_feast_99 : decode cX5_feast 99 = .ok (.iload 7, 2) := by decide +kernel
theorem dX5_feast_101 : decode cX5_feast 101 = .ok (.ifCond .eq 24, 3) := by decide +kernel
theorem dX5_feast_104 : decode cX5_feast 104 = .ok (.iload 5, 2) := by decide +kernel
theorem dX5_feast_106 : decode cX5_feast 106 = .ok (.ifCond .lt 12, 3) := by decide +kernel
theorem dX5_feast_109 : decode cX5_feast 109 = .ok (.aload_n 0, 1) := by decide +kernel
theorem dX5_feast_110 : decode cX5_feast 110 = .ok (.getfield 246, 3) := by decide +kernel
theorem dX5_feast_113 : decode cX5_feast 113 = .ok (.iload 5, 2) := by decide +kernel
theorem dX5_feast_115 : decode cX5_feast 115 = .ok (.if_icmp .ge 10, 3) := by decide +kernel
theorem dX5_feast_118 : decode cX5_feast 118 = .ok (.aload_n 0, 1) := by decide +kernel
theorem dX5_feast_119 : decode cX5_feast 119 = .ok (.getfield 246, 3) := by decide +kernel
theorem dX5_feast_122 : decode cX5_feast 122 = .ok (.goto 5, 3) := by decide +kernel
theorem dX5_feast_125 : decode cX5_feast 125 = .ok (.iload 5, 2) := by decide +kernel
theorem dX5_feast_127 : decode cX5_feast 127 = .ok (.istore 5, 2) := by decide +kernel
theorem dX5_feast_129 : decode cX5_feast 129 = .ok (.iinc 6 1, 3) := by decide +kernel
theorem dX5_feast_132 : decode cX5_feast 132 = .ok (.goto (-61), 3) := by decide +kernel
theorem dX5_feast_135 : decode cX5_feast 135 = .ok (.iload 5, 2) := by decide +kernel
theorem dX5_feast_137 : decode cX5_feast 137 = .ok (.ireturn, 1) := by decide +kernel
theorem dX5_isAimedAt_0 : decode cX5_isAimedAt 0 = .ok (.iconst 0, 1) := by decide +kernel
theorem dX5_isAimedAt_1 : decode cX5_isAimedAt 1 = .ok (.istore_n 2, 1) := by decide +kernel
theorem dX5_isAimedAt_2 : decode cX5_isAimedAt 2 = .ok (.iconst 0, 1) := by decide +kernel
theorem dX5_isAimedAt_3 : decode cX5_isAimedAt 3 = .ok (.istore_n 3, 1) := by decide +kernel
theorem dX5_isAimedAt_4 : decode cX5_isAimedAt 4 = .ok (.iload_n 3, 1) := by decide +kernel
theorem dX5_isAimedAt_5 : decode cX5_isAimedAt 5 = .ok (.aload_n 0, 1) := by decide +kernel
theorem dX5_isAimedAt_6 : decode cX5_isAimedAt 6 = .ok (.getfield 71, 3) := by decide +kernel
theorem dX5_isAimedAt_9 : decode cX5_isAimedAt 9 = .ok (.if_icmp .ge 68, 3) := by decide +kernel
theorem dX5_isAimedAt_12 : decode cX5_isAimedAt 12 = .ok (.aload_n 0, 1) := by decide +kernel
theorem dX5_isAimedAt_13 : decode cX5_isAimedAt 13 = .ok (.getfield 16, 3) := by decide +kernel
theorem dX5_isAimedAt_16 : decode cX5_isAimedAt 16 = .ok (.iload_n 3, 1) := by decide +kernel
theorem dX5_isAimedAt_17 : decode cX5_isAimedAt 17 = .ok (.iaload, 1) := by decide +kernel
theorem dX5_isAimedAt_18 : decode cX5_isAimedAt 18 = .ok (.iconst 4, 1) := by decide +kernel
theorem dX5_isAimedAt_19 : decode cX5_isAimedAt 19 = .ok (.if_icmp .ne 14, 3) := by decide +kernel
theorem dX5_isAimedAt_22 : decode cX5_isAimedAt 22 = .ok (.iload_n 3, 1) := by decide +kernel
theorem dX5_isAimedAt_23 : decode cX5_isAimedAt 23 = .ok (.iconst 1, 1) := by decide +kernel
theorem dX5_isAimedAt_24 : decode cX5_isAimedAt 24 = .ok (.iadd, 1) := by decide +kernel
theorem dX5_isAimedAt_25 : decode cX5_isAimedAt 25 = .ok (.aload_n 0, 1) := by decide +kernel
theorem dX5_isAimedAt_26 : decode cX5_isAimedAt 26 = .ok (.getfield 71, 3) := by decide +kernel
theorem dX5_isAimedAt_29 : decode cX5_isAimedAt 29 = .ok (.irem, 1) := by decide +kernel
theorem dX5_isAimedAt_30 : decode cX5_isAimedAt 30 = .ok (.goto 9, 3) := by decide +kernel
theorem dX5_isAimedAt_33 : decode cX5_isAimedAt 33 = .ok (.aload_n 0, 1) := by decide +kernel
theorem dX5_isAimedAt_34 : decode cX5_isAimedAt 34 = .ok (.getfield 26, 3) := by decide +kernel
theorem dX5_isAimedAt_37 : decode cX5_isAimedAt 37 = .ok (.iload_n 3, 1) := by decide +kernel
theorem dX5_isAimedAt_38 : decode cX5_isAimedAt 38 = .ok (.iaload, 1) := by decide +kernel
theorem dX5_isAimedAt_39 : decode cX5_isAimedAt 39 = .ok (.istore 4, 2) := by decide +kernel
theorem dX5_isAimedAt_41 : decode cX5_isAimedAt 41 = .ok (.iload_n 2, 1) := by decide +kernel
theorem dX5_isAimedAt_42 : decode cX5_isAimedAt 42 = .ok (.ifCond .ne 23, 3) := by decide +kernel
theorem dX5_isAimedAt_45 : decode cX5_isAimedAt 45 = .ok (.iload_n 3, 1) := by decide +kernel
theorem dX5_isAimedAt_46 : decode cX5_isAimedAt 46 = .ok (.iload_n 1, 1) := by decide +kernel
theorem dX5_isAimedAt_47 : decode cX5_isAimedAt 47 = .ok (.if_icmp .eq 22, 3) := by decide +kernel
theorem dX5_isAimedAt_50 : decode cX5_isAimedAt 50 = .ok (.aload_n 0, 1) := by decide +kernel
theorem dX5_isAimedAt_51 : decode cX5_isAimedAt 51 = .ok (.getfield 29, 3) := by decide +kernel
theorem dX5_isAimedAt_54 : decode cX5_isAimedAt 54 = .ok (.iload_n 3, 1) := by decide +kernel
theorem dX5_isAimedAt_55 : decode cX5_isAimedAt 55 = .ok (.iaload, 1) := by decide +kernel
theorem dX5_isAimedAt_56 : decode cX5_isAimedAt 56 = .ok (.ifCond .le 13, 3) := by decide +kernel
theorem dX5_isAimedAt_59 : decode cX5_isAimedAt 59 = .ok (.iload 4, 2) := by decide +kernel
theorem dX5_isAimedAt_61 : decode cX5_isAimedAt 61 = .ok (.iload_n 1, 1) := by decide +kernel
theorem dX5_isAimedAt_62 : decode cX5_isAimedAt 62 = .ok (.if_icmp .ne 7, 3) := by decide +kernel
theorem dX5_isAimedAt_65 : decode cX5_isAimedAt 65 = .ok (.iconst 1, 1) := by decide +kernel
theorem dX5_isAimedAt_66 : decode cX5_isAimedAt 66 = .ok (.goto 4, 3) := by decide +kernel
theorem dX5_isAimedAt_69 : decode cX5_isAimedAt 69 = .ok (.iconst 0, 1) := by decide +kernel
theorem dX5_isAimedAt_70 : decode cX5_isAimedAt 70 = .ok (.istore_n 2, 1) := by decide +kernel
theorem dX5_isAimedAt_71 : decode cX5_isAimedAt 71 = .ok (.iinc 3 1, 3) := by decide +kernel
theorem dX5_isAimedAt_74 : decode cX5_isAimedAt 74 = .ok (.goto (-70), 3) := by decide +kernel
theorem dX5_isAimedAt_77 : decode cX5_isAimedAt 77 = .ok (.iload_n 2, 1) := by decide +kernel
theorem dX5_isAimedAt_78 : decode cX5_isAimedAt 78 = .ok (.ireturn, 1) := by decide +kernel
theorem dX5_stuck_0 : decode cX5_stuck 0 = .ok (.iconst 0, 1) := by decide +kernel
theorem dX5_stuck_1 : decode cX5_stuck 1 = .ok (.istore_n 1, 1) := by decide +kernel
theorem dX5_stuck_2 : decode cX5_stuck 2 = .ok (.iconst 0, 1) := by decide +kernel
theorem dX5_stuck_3 : decode cX5_stuck 3 = .ok (.istore_n 2, 1) := by decide +kernel
theorem dX5_stuck_4 : decode cX5_stuck 4 = .ok (.iload_n 2, 1) := by decide +kernel
theorem dX5_stuck_5 : decode cX5_stuck 5 = .ok (.aload_n 0, 1) := by decide +kernel
theorem dX5_stuck_6 : decode cX5_stuck 6 = .ok (.getfield 71, 3) := by decide +kernel
theorem dX5_stuck_9 : decode cX5_stuck 9 = .ok (.if_icmp .ge 63, 3) := by decide +kernel
theorem dX5_stuck_12 : decode cX5_stuck 12 = .ok (.aload_n 0, 1) := by decide +kernel
theorem dX5_stuck_13 : decode cX5_stuck 13 = .ok (.getfield 29, 3) := by decide +kernel
theorem dX5_stuck_16 : decode cX5_stuck 16 = .ok (.iload_n 2, 1) := by decide +kernel
theorem dX5_stuck_17 : decode cX5_stuck 17 = .ok (.iaload, 1) := by decide +kernel
theorem dX5_stuck_18 : decode cX5_stuck 18 = .ok (.ifCond .ne 32, 3) := by decide +kernel
theorem dX5_stuck_21 : decode cX5_stuck 21 = .ok (.aload_n 0, 1) := by decide +kernel
theorem dX5_stuck_22 : decode cX5_stuck 22 = .ok (.getfield 23, 3) := by decide +kernel
theorem dX5_stuck_25 : decode cX5_stuck 25 = .ok (.iload_n 2, 1) := by decide +kernel
theorem dX5_stuck_26 : decode cX5_stuck 26 = .ok (.iaload, 1) := by decide +kernel
theorem dX5_stuck_27 : decode cX5_stuck 27 = .ok (.ifCond .eq 11, 3) := by decide +kernel
theorem dX5_stuck_30 : decode cX5_stuck 30 = .ok (.aload_n 0, 1) := by decide +kernel
theorem dX5_stuck_31 : decode cX5_stuck 31 = .ok (.iload_n 2, 1) := by decide +kernel
theorem dX5_stuck_32 : decode cX5_stuck 32 = .ok (.invokevirtual 119, 3) := by decide +kernel
theorem dX5_stuck_35 : decode cX5_stuck 35 = .ok (.ifCond .ne 15, 3) := by decide +kernel
theorem dX5_stuck_38 : decode cX5_stuck 38 = .ok (.aload_n 0, 1) := by decide +kernel
theorem dX5_stuck_39 : decode cX5_stuck 39 = .ok (.iload_n 2, 1) := by decide +kernel
theorem dX5_stuck_40 : decode cX5_stuck 40 = .ok (.invokevirtual 269, 3) := by decide +kernel
theorem dX5_stuck_43 : decode cX5_stuck 43 = .ok (.ifCond .ne 7, 3) := by decide +kernel
theorem dX5_stuck_46 : decode cX5_stuck 46 = .ok (.iconst 1, 1) := by decide +kernel
theorem dX5_stuck_47 : decode cX5_stuck 47 = .ok (.goto 4, 3) := by decide +kernel
theorem dX5_stuck_50 : decode cX5_stuck 50 = .ok (.iconst 0, 1) := by decide +kernel
theorem dX5_stuck_51 : decode cX5_stuck 51 = .ok (.istore_n 3, 1) := by decide +kernel
theorem dX5_stuck_52 : decode cX5_stuck 52 = .ok (.iload_n 3, 1) := by decide +kernel
theorem dX5_stuck_53 : decode cX5_stuck 53 = .ok (.ifCond .eq 11, 3) := by decide +kernel
theorem dX5_stuck_56 : decode cX5_stuck 56 = .ok (.iload_n 1, 1) := by decide +kernel
theorem dX5_stuck_57 : decode cX5_stuck 57 = .ok (.iconst 1, 1) := by decide +kernel
theorem dX5_stuck_58 : decode cX5_stuck 58 = .ok (.iload_n 2, 1) := by decide +kernel
theorem dX5_stuck_59 : decode cX5_stuck 59 = .ok (.ishl, 1) := by decide +kernel
theorem dX5_stuck_60 : decode cX5_stuck 60 = .ok (.ior, 1) := by decide +kernel
theorem dX5_stuck_61 : decode cX5_stuck 61 = .ok (.goto 4, 3) := by decide +kernel
theorem dX5_stuck_64 : decode cX5_stuck 64 = .ok (.iload_n 1, 1) := by decide +kernel
theorem dX5_stuck_65 : decode cX5_stuck 65 = .ok (.istore_n 1, 1) := by decide +kernel
theorem dX5_stuck_66 : decode cX5_stuck 66 = .ok (.iinc 2 1, 3) := by decide +kernel
theorem dX5_stuck_69 : decode cX5_stuck 69 = .ok (.goto (-65), 3) := by decide +kernel
theorem dX5_stuck_72 : decode cX5_stuck 72 = .ok (.iload_n 1, 1) := by decide +kernel
theorem dX5_stuck_73 : decode cX5_stuck 73 = .ok (.ireturn, 1) := by decide +kernel
theorem dX5_begins_0 : decode cX5_begins 0 = .ok (.aload_n 0, 1) := by decide +kernel
theorem dX5_begins_1 : decode cX5_begins 1 = .ok (.iconst 0, 1) := by decide +kernel
theorem dX5_begins_2 : decode cX5_begins 2 = .ok (.putfield 68, 3) := by decide +kernel
theorem dX5_begins_5 : decode cX5_begins 5 = .ok (.aload_n 0, 1) := by decide +kernel
theorem dX5_begins_6 : decode cX5_begins 6 = .ok (.invokevirtual 272, 3) := by decide +kernel
theorem dX5_begins_9 : decode cX5_begins 9 = .ok (.ireturn, 1) := by decide +kernel
theorem dX5_helps_0 : decode cX5_helps 0 = .ok (.aload_n 0, 1) := by decide +kernel
theorem dX5_helps_1 : decode cX5_helps 1 = .ok (.iconst 0, 1) := by decide +kernel
theorem dX5_helps_2 : decode cX5_helps 2 = .ok (.putfield 68, 3) := by decide +kernel
theorem dX5_helps_5 : decode cX5_helps 5 = .ok (.aload_n 0, 1) := by decide +kernel
theorem dX5_helps_6 : decode cX5_helps 6 = .ok (.invokevirtual 272, 3) := by decide +kernel
theorem dX5_helps_9 : decode cX5_helps 9 = .ok (.istore_n 1, 1) := by decide +kernel
theorem dX5_helps_10 : decode cX5_helps 10 = .ok (.iconst 0, 1) := by decide +kernel
theorem dX5_helps_11 : decode cX5_helps 11 = .ok (.istore_n 2, 1) := by decide +kernel
theorem dX5_helps_12 : decode cX5_helps 12 = .ok (.iconst 0, 1) := by decide +kernel
theorem dX5_helps_13 : decode cX5_helps 13 = .ok (.istore_n 3, 1) := by decide +kernel
theorem dX5_helps_14 : decode cX5_helps 14 = .ok (.iload_n 3, 1) := by decide +kernel
theorem dX5_helps_15 : decode cX5_helps 15 = .ok (.bipush 6, 2) := by decide +kernel
theorem dX5_helps_17 : decode cX5_helps 17 = .ok (.if_icmp .ge 17, 3) := by decide +kernel
theorem dX5_helps_20 : decode cX5_helps 20 = .ok (.iload_n 2, 1) := by decide +kernel
theorem dX5_helps_21 : decode cX5_helps 21 = .ok (.iload_n 1, 1) := by decide +kernel
theorem dX5_helps_22 : decode cX5_helps 22 = .ok (.iload_n 3, 1) := by decide +kernel
theorem dX5_helps_23 : decode cX5_helps 23 = .ok (.ishr, 1) := by decide +kernel
theorem dX5_helps_24 : decode cX5_helps 24 = .ok (.iconst 1, 1) := by decide +kernel
theorem dX5_helps_25 : decode cX5_helps 25 = .ok (.iand, 1) := by decide +kernel
theorem dX5_helps_26 : decode cX5_helps 26 = .ok (.iadd, 1) := by decide +kernel
theorem dX5_helps_27 : decode cX5_helps 27 = .ok (.istore_n 2, 1) := by decide +kernel
theorem dX5_helps_28 : decode cX5_helps 28 = .ok (.iinc 3 1, 3) := by decide +kernel
theorem dX5_helps_31 : decode cX5_helps 31 = .ok (.goto (-17), 3) := by decide +kernel
theorem dX5_helps_34 : decode cX5_helps 34 = .ok (.aload_n 0, 1) := by decide +kernel
theorem dX5_helps_35 : decode cX5_helps 35 = .ok (.invokevirtual 239, 3) := by decide +kernel
theorem dX5_helps_38 : decode cX5_helps 38 = .ok (.istore_n 3, 1) := by decide +kernel
theorem dX5_helps_39 : decode cX5_helps 39 = .ok (.iload_n 2, 1) := by decide +kernel
theorem dX5_helps_40 : decode cX5_helps 40 = .ok (.ifCond .le 21, 3) := by decide +kernel
theorem dX5_helps_43 : decode cX5_helps 43 = .ok (.iload_n 3, 1) := by decide +kernel
theorem dX5_helps_44 : decode cX5_helps 44 = .ok (.ifCond .lt 17, 3) := by decide +kernel
theorem dX5_helps_47 : decode cX5_helps 47 = .ok (.aload_n 0, 1) := by decide +kernel
theorem dX5_helps_48 : decode cX5_helps 48 = .ok (.getfield 29, 3) := by decide +kernel
theorem dX5_helps_51 : decode cX5_helps 51 = .ok (.iload_n 3, 1) := by decide +kernel
theorem dX5_helps_52 : decode cX5_helps 52 = .ok (.iaload, 1) := by decide +kernel
theorem dX5_helps_53 : decode cX5_helps 53 = .ok (.iload_n 2, 1) := by decide +kernel
theorem dX5_helps_54 : decode cX5_helps 54 = .ok (.if_icmp .le 7, 3) := by decide +kernel
theorem dX5_helps_57 : decode cX5_helps 57 = .ok (.iload_n 3, 1) := by decide +kernel
theorem dX5_helps_58 : decode cX5_helps 58 = .ok (.goto 5, 3) := by decide +kernel
theorem dX5_helps_61 : decode cX5_helps 61 = .ok (.bipush (-9), 2) := by decide +kernel
theorem dX5_helps_63 : decode cX5_helps 63 = .ok (.ireturn, 1) := by decide +kernel
theorem dX5_hasBy_0 : decode cX5_hasBy 0 = .ok (.aload_n 0, 1) := by decide +kernel
theorem dX5_hasBy_1 : decode cX5_hasBy 1 = .ok (.invokevirtual 217, 3) := by decide +kernel
theorem dX5_hasBy_4 : decode cX5_hasBy 4 = .ok (.aload_n 0, 1) := by decide +kernel
theorem dX5_hasBy_5 : decode cX5_hasBy 5 = .ok (.iload_n 3, 1) := by decide +kernel
theorem dX5_hasBy_6 : decode cX5_hasBy 6 = .ok (.putfield 96, 3) := by decide +kernel
theorem dX5_hasBy_9 : decode cX5_hasBy 9 = .ok (.aload_n 0, 1) := by decide +kernel
theorem dX5_hasBy_10 : decode cX5_hasBy 10 = .ok (.iload 4, 2) := by decide +kernel
theorem dX5_hasBy_12 : decode cX5_hasBy 12 = .ok (.putfield 85, 3) := by decide +kernel
theorem dX5_hasBy_15 : decode cX5_hasBy 15 = .ok (.aload_n 0, 1) := by decide +kernel
theorem dX5_hasBy_16 : decode cX5_hasBy 16 = .ok (.iload_n 2, 1) := by decide +kernel
theorem dX5_hasBy_17 : decode cX5_hasBy 17 = .ok (.invokevirtual 220, 3) := by decide +kernel
theorem dX5_hasBy_20 : decode cX5_hasBy 20 = .ok (.aload_n 0, 1) := by decide +kernel
theorem dX5_hasBy_21 : decode cX5_hasBy 21 = .ok (.getfield 29, 3) := by decide +kernel
theorem dX5_hasBy_24 : decode cX5_hasBy 24 = .ok (.iload_n 1, 1) := by decide +kernel
theorem dX5_hasBy_25 : decode cX5_hasBy 25 = .ok (.iaload, 1) := by decide +kernel
theorem dX5_hasBy_26 : decode cX5_hasBy 26 = .ok (.istore 5, 2) := by decide +kernel
theorem dX5_hasBy_28 : decode cX5_hasBy 28 = .ok (.aload_n 0, 1) := by decide +kernel
theorem dX5_hasBy_29 : decode cX5_hasBy 29 = .ok (.invokevirtual 223, 3) := by decide +kernel
theorem dX5_hasBy_32 : decode cX5_hasBy 32 = .ok (.iload 5, 2) := by decide +kernel
theorem dX5_hasBy_34 : decode cX5_hasBy 34 = .ok (.ireturn, 1) := by decide +kernel
theorem dX5_byLaw_0 : decode cX5_byLaw 0 = .ok (.aload_n 0, 1) := by decide +kernel
theorem dX5_byLaw_1 : decode cX5_byLaw 1 = .ok (.iconst 0, 1) := by decide +kernel
theorem dX5_byLaw_2 : decode cX5_byLaw 2 = .ok (.putfield 68, 3) := by decide +kernel
theorem dX5_byLaw_5 : decode cX5_byLaw 5 = .ok (.iload_n 1, 1) := by decide +kernel
theorem dX5_byLaw_6 : decode cX5_byLaw 6 = .ok (.i2l, 1) := by decide +kernel
theorem dX5_byLaw_7 : decode cX5_byLaw 7 = .ok (.lconst 0, 1) := by decide +kernel
theorem dX5_byLaw_8 : decode cX5_byLaw 8 = .ok (.ldc2_w 184, 3) := by decide +kernel
theorem dX5_byLaw_11 : decode cX5_byLaw 11 = .ok (.invokestatic 74, 3) := by decide +kernel
theorem dX5_byLaw_14 : decode cX5_byLaw 14 = .ok (.ifCond .ne 8, 3) := by decide +kernel
theorem dX5_byLaw_17 : decode cX5_byLaw 17 = .ok (.bipush (-2), 2) := by decide +kernel
theorem dX5_byLaw_19 : decode cX5_byLaw 19 = .ok (.goto 12, 3) := by decide +kernel
theorem dX5_byLaw_22 : decode cX5_byLaw 22 = .ok (.aload_n 0, 1) := by decide +kernel
theorem dX5_byLaw_23 : decode cX5_byLaw 23 = .ok (.iload_n 2, 1) := by decide +kernel
theorem dX5_byLaw_24 : decode cX5_byLaw 24 = .ok (.iload_n 3, 1) := by decide +kernel
theorem dX5_byLaw_25 : decode cX5_byLaw 25 = .ok (.iconst 0, 1) := by decide +kernel
theorem dX5_byLaw_26 : decode cX5_byLaw 26 = .ok (.bipush 60, 2) := by decide +kernel
theorem dX5_byLaw_28 : decode cX5_byLaw 28 = .ok (.invokevirtual 226, 3) := by decide +kernel
theorem dX5_byLaw_31 : decode cX5_byLaw 31 = .ok (.istore 4, 2) := by decide +kernel
theorem dX5_byLaw_33 : decode cX5_byLaw 33 = .ok (.iload 4, 2) := by decide +kernel
theorem dX5_byLaw_35 : decode cX5_byLaw 35 = .ok (.ifCond .ge 12, 3) := by decide +kernel
theorem dX5_byLaw_38 : decode cX5_byLaw 38 = .ok (.aload_n 0, 1) := by decide +kernel
theorem dX5_byLaw_39 : decode cX5_byLaw 39 = .ok (.iload 4, 2) := by decide +kernel
theorem dX5_byLaw_41 : decode cX5_byLaw 41 = .ok (.invokevirtual 152, 3) := by decide +kernel
theorem dX5_byLaw_44 : decode cX5_byLaw 44 = .ok (.goto 14, 3) := by decide +kernel
theorem dX5_byLaw_47 : decode cX5_byLaw 47 = .ok (.aload_n 0, 1) := by decide +kernel
theorem dX5_byLaw_48 : decode cX5_byLaw 48 = .ok (.iload_n 2, 1) := by decide +kernel
theorem dX5_byLaw_49 : decode cX5_byLaw 49 = .ok (.iload_n 3, 1) := by decide +kernel
theorem dX5_byLaw_50 : decode cX5_byLaw 50 = .ok (.iload_n 1, 1) := by decide +kernel
theorem dX5_byLaw_51 : decode cX5_byLaw 51 = .ok (.aload_n 0, 1) := by decide +kernel
theorem dX5_byLaw_52 : decode cX5_byLaw 52 = .ok (.getfield 85, 3) := by decide +kernel
theorem dX5_byLaw_55 : decode cX5_byLaw 55 = .ok (.invokevirtual 275, 3) := by decide +kernel
theorem dX5_byLaw_58 : decode cX5_byLaw 58 = .ok (.ireturn, 1) := by decide +kernel
theorem dX5_byBack_0 : decode cX5_byBack 0 = .ok (.aload_n 0, 1) := by decide +kernel
theorem dX5_byBack_1 : decode cX5_byBack 1 = .ok (.iconst 0, 1) := by decide +kernel
theorem dX5_byBack_2 : decode cX5_byBack 2 = .ok (.putfield 68, 3) := by decide +kernel
theorem dX5_byBack_5 : decode cX5_byBack 5 = .ok (.aload_n 0, 1) := by decide +kernel
theorem dX5_byBack_6 : decode cX5_byBack 6 = .ok (.iload_n 2, 1) := by decide +kernel
theorem dX5_byBack_7 : decode cX5_byBack 7 = .ok (.invokevirtual 199, 3) := by decide +kernel
theorem dX5_byBack_10 : decode cX5_byBack 10 = .ok (.ifCond .ne 7, 3) := by decide +kernel
theorem dX5_byBack_13 : decode cX5_byBack 13 = .ok (.iconst (-1), 1) := by decide +kernel
theorem dX5_byBack_14 : decode cX5_byBack 14 = .ok (.goto 33, 3) := by decide +kernel
theorem dX5_byBack_17 : decode cX5_byBack 17 = .ok (.iload_n 1, 1) := by decide +kernel
theorem dX5_byBack_18 : decode cX5_byBack 18 = .ok (.ifCond .lt 7, 3) := by decide +kernel
theorem dX5_byBack_21 : decode cX5_byBack 21 = .ok (.iload_n 3, 1) := by decide +kernel
theorem dX5_byBack_22 : decode cX5_byBack 22 = .ok (.ifCond .ge 8, 3) := by decide +kernel
theorem dX5_byBack_25 : decode cX5_byBack 25 = .ok (.bipush (-4), 2) := by decide +kernel
theorem dX5_byBack_27 : decode cX5_byBack 27 = .ok (.goto 20, 3) := by decide +kernel
theorem dX5_byBack_30 : decode cX5_byBack 30 = .ok (.iload_n 1, 1) := by decide +kernel
theorem dX5_byBack_31 : decode cX5_byBack 31 = .ok (.iconst 5, 1) := by decide +kernel
theorem dX5_byBack_32 : decode cX5_byBack 32 = .ok (.if_icmp .gt 9, 3) := by decide +kernel
theorem dX5_byBack_35 : decode cX5_byBack 35 = .ok (.iload_n 3, 1) := by decide +kernel
theorem dX5_byBack_36 : decode cX5_byBack 36 = .ok (.bipush 60, 2) := by decide +kernel
theorem dX5_byBack_38 : decode cX5_byBack 38 = .ok (.if_icmp .le 8, 3) := by decide +kernel
theorem dX5_byBack_41 : decode cX5_byBack 41 = .ok (.bipush (-6), 2) := by decide +kernel
theorem dX5_byBack_43 : decode cX5_byBack 43 = .ok (.goto 4, 3) := by decide +kernel
theorem dX5_byBack_46 : decode cX5_byBack 46 = .ok (.iconst 0, 1) := by decide +kernel
theorem dX5_byBack_47 : decode cX5_byBack 47 = .ok (.istore 4, 2) := by decide +kernel
theorem dX5_byBack_49 : decode cX5_byBack 49 = .ok (.iload 4, 2) := by decide +kernel
theorem dX5_byBack_51 : decode cX5_byBack 51 = .ok (.ifCond .ge 12, 3) := by decide +kernel
theorem dX5_byBack_54 : decode cX5_byBack 54 = .ok (.aload_n 0, 1) := by decide +kernel
theorem dX5_byBack_55 : decode cX5_byBack 55 = .ok (.iload 4, 2) := by decide +kernel
theorem dX5_byBack_57 : decode cX5_byBack 57 = .ok (.invokevirtual 152, 3) := by decide +kernel
theorem dX5_byBack_60 : decode cX5_byBack 60 = .ok (.goto 14, 3) := by decide +kernel
theorem dX5_byBack_63 : decode cX5_byBack 63 = .ok (.aload_n 0, 1) := by decide +kernel
theorem dX5_byBack_64 : decode cX5_byBack 64 = .ok (.iload_n 2, 1) := by decide +kernel
theorem dX5_byBack_65 : decode cX5_byBack 65 = .ok (.iload_n 3, 1) := by decide +kernel
theorem dX5_byBack_66 : decode cX5_byBack 66 = .ok (.aload_n 0, 1) := by decide +kernel
theorem dX5_byBack_67 : decode cX5_byBack 67 = .ok (.getfield 96, 3) := by decide +kernel
theorem dX5_byBack_70 : decode cX5_byBack 70 = .ok (.iload_n 1, 1) := by decide +kernel
theorem dX5_byBack_71 : decode cX5_byBack 71 = .ok (.invokevirtual 275, 3) := by decide +kernel
theorem dX5_byBack_74 : decode cX5_byBack 74 = .ok (.ireturn, 1) := by decide +kernel
theorem dX5_leastLaw_0 : decode cX5_leastLaw 0 = .ok (.aload_n 0, 1) := by decide +kernel
theorem dX5_leastLaw_1 : decode cX5_leastLaw 1 = .ok (.iconst 0, 1) := by decide +kernel
theorem dX5_leastLaw_2 : decode cX5_leastLaw 2 = .ok (.putfield 68, 3) := by decide +kernel
theorem dX5_leastLaw_5 : decode cX5_leastLaw 5 = .ok (.aload_n 0, 1) := by decide +kernel
theorem dX5_leastLaw_6 : decode cX5_leastLaw 6 = .ok (.iload_n 1, 1) := by decide +kernel
theorem dX5_leastLaw_7 : decode cX5_leastLaw 7 = .ok (.iload_n 2, 1) := by decide +kernel
theorem dX5_leastLaw_8 : decode cX5_leastLaw 8 = .ok (.iconst 0, 1) := by decide +kernel
theorem dX5_leastLaw_9 : decode cX5_leastLaw 9 = .ok (.bipush 60, 2) := by decide +kernel
theorem dX5_leastLaw_11 : decode cX5_leastLaw 11 = .ok (.invokevirtual 226, 3) := by decide +kernel
theorem dX5_leastLaw_14 : decode cX5_leastLaw 14 = .ok (.istore_n 3, 1) := by decide +kernel
theorem dX5_leastLaw_15 : decode cX5_leastLaw 15 = .ok (.iload_n 3, 1) := by decide +kernel
theorem dX5_leastLaw_16 : decode cX5_leastLaw 16 = .ok (.ifCond .ge 9, 3) := by decide +kernel
theorem dX5_leastLaw_19 : decode cX5_leastLaw 19 = .ok (.aload_n 0, 1) := by decide +kernel
theorem dX5_leastLaw_20 : decode cX5_leastLaw 20 = .ok (.iload_n 3, 1) := by decide +kernel
theorem dX5_leastLaw_21 : decode cX5_leastLaw 21 = .ok (.invokevirtual 152, 3) := by decide +kernel
theorem dX5_leastLaw_24 : decode cX5_leastLaw 24 = .ok (.ireturn, 1) := by decide +kernel
theorem dX5_leastLaw_25 : decode cX5_leastLaw 25 = .ok (.iconst 0, 1) := by decide +kernel
theorem dX5_leastLaw_26 : decode cX5_leastLaw 26 = .ok (.istore 4, 2) := by decide +kernel
theorem dX5_leastLaw_28 : decode cX5_leastLaw 28 = .ok (.aload_n 0, 1) := by decide +kernel
theorem dX5_leastLaw_29 : decode cX5_leastLaw 29 = .ok (.iload_n 1, 1) := by decide +kernel
theorem dX5_leastLaw_30 : decode cX5_leastLaw 30 = .ok (.iload_n 2, 1) := by decide +kernel
theorem dX5_leastLaw_31 : decode cX5_leastLaw 31 = .ok (.iconst 0, 1) := by decide +kernel
theorem dX5_leastLaw_32 : decode cX5_leastLaw 32 = .ok (.aload_n 0, 1) := by decide +kernel
theorem dX5_leastLaw_33 : decode cX5_leastLaw 33 = .ok (.getfield 85, 3) := by decide +kernel
theorem dX5_leastLaw_36 : decode cX5_leastLaw 36 = .ok (.invokevirtual 275, 3) := by decide +kernel
theorem dX5_leastLaw_39 : decode cX5_leastLaw 39 = .ok (.istore 5, 2) := by decide +kernel
theorem dX5_leastLaw_41 : decode cX5_leastLaw 41 = .ok (.iconst 1, 1) := by decide +kernel
theorem dX5_leastLaw_42 : decode cX5_leastLaw 42 = .ok (.istore 6, 2) := by decide +kernel
theorem dX5_leastLaw_44 : decode cX5_leastLaw 44 = .ok (.iload 6, 2) := by decide +kernel
theorem dX5_leastLaw_46 : decode cX5_leastLaw 46 = .ok (.bipush 6, 2) := by decide +kernel
theorem dX5_leastLaw_48 : decode cX5_leastLaw 48 = .ok (.if_icmp .ge 55, 3) := by decide +kernel
theorem dX5_leastLaw_51 : decode cX5_leastLaw 51 = .ok (.aload_n 0, 1) := by decide +kernel
theorem dX5_leastLaw_52 : decode cX5_leastLaw 52 = .ok (.iload_n 1, 1) := by decide +kernel
theorem dX5_leastLaw_53 : decode cX5_leastLaw 53 = .ok (.iload_n 2, 1) := by decide +kernel
theorem dX5_leastLaw_54 : decode cX5_leastLaw 54 = .ok (.iload 6, 2) := by decide +kernel
theorem dX5_leastLaw_56 : decode cX5_leastLaw 56 = .ok (.aload_n 0, 1) := by decide +kernel
theorem dX5_leastLaw_57 : decode cX5_leastLaw 57 = .ok (.getfield 85, 3) := by decide +kernel
theorem dX5_leastLaw_60 : decode cX5_leastLaw 60 = .ok (.invokevirtual 275, 3) := by decide +kernel
theorem dX5_leastLaw_63 : decode cX5_leastLaw 63 = .ok (.istore 7, 2) := by decide +kernel
theorem dX5_leastLaw_65 : decode cX5_leastLaw 65 = .ok (.iload 7, 2) := by decide +kernel
theorem dX5_leastLaw_67 : decode cX5_leastLaw 67 = .ok (.iload 5, 2) := by decide +kernel
theorem dX5_leastLaw_69 : decode cX5_leastLaw 69 = .ok (.if_icmp .ge 8, 3) := by decide +kernel
theorem dX5_leastLaw_72 : decode cX5_leastLaw 72 = .ok (.iload 6, 2) := by decide +kernel
theorem dX5_leastLaw_74 : decode cX5_leastLaw 74 = .ok (.goto 5, 3) := by decide +kernel
theorem dX5_leastLaw_77 : decode cX5_leastLaw 77 = .ok (.iload 4, 2) := by decide +kernel
theorem dX5_leastLaw_79 : decode cX5_leastLaw 79 = .ok (.istore 4, 2) := by decide +kernel
theorem dX5_leastLaw_81 : decode cX5_leastLaw 81 = .ok (.iload 7, 2) := by decide +kernel
theorem dX5_leastLaw_83 : decode cX5_leastLaw 83 = .ok (.iload 5, 2) := by decide +kernel
theorem dX5_leastLaw_85 : decode cX5_leastLaw 85 = .ok (.if_icmp .ge 8, 3) := by decide +kernel
theorem dX5_leastLaw_88 : decode cX5_leastLaw 88 = .ok (.iload 7, 2) := by decide +kernel
theorem dX5_leastLaw_90 : decode cX5_leastLaw 90 = .ok (.goto 5, 3) := by decide +kernel
theorem dX5_leastLaw_93 : decode cX5_leastLaw 93 = .ok (.iload 5, 2) := by decide +kernel
theorem dX5_leastLaw_95 : decode cX5_leastLaw 95 = .ok (.istore 5, 2) := by decide +kernel
theorem dX5_leastLaw_97 : decode cX5_leastLaw 97 = .ok (.iinc 6 1, 3) := by decide +kernel
theorem dX5_leastLaw_100 : decode cX5_leastLaw 100 = .ok (.goto (-56), 3) := by decide +kernel
end
section
theorem dX5_leastLaw_103 : decode cX5_leastLaw 103 = .ok (.iload 4, 2) := by decide +kernel
theorem dX5_leastLaw_105 : decode cX5_leastLaw 105 = .ok (.ireturn, 1) := by decide +kernel
theorem dX5_row_0 : decode cX5_row 0 = .ok (.aload_n 0, 1) := by decide +kernel
theorem dX5_row_1 : decode cX5_row 1 = .ok (.iconst 0, 1) := by decide +kernel
theorem dX5_row_2 : decode cX5_row 2 = .ok (.putfield 68, 3) := by decide +kernel
theorem dX5_row_5 : decode cX5_row 5 = .ok (.iload_n 1, 1) := by decide +kernel
theorem dX5_row_6 : decode cX5_row 6 = .ok (.ifCond .ge 10, 3) := by decide +kernel
theorem dX5_row_9 : decode cX5_row 9 = .ok (.aload_n 0, 1) := by decide +kernel
theorem dX5_row_10 : decode cX5_row 10 = .ok (.bipush (-4), 2) := by decide +kernel
theorem dX5_row_12 : decode cX5_row 12 = .ok (.invokevirtual 152, 3) := by decide +kernel
theorem dX5_row_15 : decode cX5_row 15 = .ok (.ireturn, 1) := by decide +kernel
theorem dX5_row_16 : decode cX5_row 16 = .ok (.iload_n 1, 1) := by decide +kernel
theorem dX5_row_17 : decode cX5_row 17 = .ok (.sipush 9999, 3) := by decide +kernel
theorem dX5_row_20 : decode cX5_row 20 = .ok (.if_icmp .gt 12, 3) := by decide +kernel
theorem dX5_row_23 : decode cX5_row 23 = .ok (.aload_n 0, 1) := by decide +kernel
theorem dX5_row_24 : decode cX5_row 24 = .ok (.getfield 278, 3) := by decide +kernel
theorem dX5_row_27 : decode cX5_row 27 = .ok (.bipush 12, 2) := by decide +kernel
theorem dX5_row_29 : decode cX5_row 29 = .ok (.if_icmp .ne 10, 3) := by decide +kernel
theorem dX5_row_32 : decode cX5_row 32 = .ok (.aload_n 0, 1) := by decide +kernel
theorem dX5_row_33 : decode cX5_row 33 = .ok (.bipush (-6), 2) := by decide +kernel
theorem dX5_row_35 : decode cX5_row 35 = .ok (.invokevirtual 152, 3) := by decide +kernel
theorem dX5_row_38 : decode cX5_row 38 = .ok (.ireturn, 1) := by decide +kernel
theorem dX5_row_39 : decode cX5_row 39 = .ok (.aload_n 0, 1) := by decide +kernel
theorem dX5_row_40 : decode cX5_row 40 = .ok (.getfield 59, 3) := by decide +kernel
theorem dX5_row_43 : decode cX5_row 43 = .ok (.aload_n 0, 1) := by decide +kernel
theorem dX5_row_44 : decode cX5_row 44 = .ok (.getfield 278, 3) := by decide +kernel
theorem dX5_row_47 : decode cX5_row 47 = .ok (.iload_n 1, 1) := by decide +kernel
theorem dX5_row_48 : decode cX5_row 48 = .ok (.iastore, 1) := by decide +kernel
theorem dX5_row_49 : decode cX5_row 49 = .ok (.aload_n 0, 1) := by decide +kernel
theorem dX5_row_50 : decode cX5_row 50 = .ok (.dup, 1) := by decide +kernel
theorem dX5_row_51 : decode cX5_row 51 = .ok (.getfield 278, 3) := by decide +kernel
theorem dX5_row_54 : decode cX5_row 54 = .ok (.iconst 1, 1) := by decide +kernel
theorem dX5_row_55 : decode cX5_row 55 = .ok (.iadd, 1) := by decide +kernel
theorem dX5_row_56 : decode cX5_row 56 = .ok (.putfield 278, 3) := by decide +kernel
theorem dX5_row_59 : decode cX5_row 59 = .ok (.aload_n 0, 1) := by decide +kernel
theorem dX5_row_60 : decode cX5_row 60 = .ok (.getfield 278, 3) := by decide +kernel
theorem dX5_row_63 : decode cX5_row 63 = .ok (.ireturn, 1) := by decide +kernel
theorem dX5_bookOf_0 : decode cX5_bookOf 0 = .ok (.aload_n 0, 1) := by decide +kernel
theorem dX5_bookOf_1 : decode cX5_bookOf 1 = .ok (.getfield 278, 3) := by decide +kernel
theorem dX5_bookOf_4 : decode cX5_bookOf 4 = .ok (.istore_n 3, 1) := by decide +kernel
theorem dX5_bookOf_5 : decode cX5_bookOf 5 = .ok (.aload_n 0, 1) := by decide +kernel
theorem dX5_bookOf_6 : decode cX5_bookOf 6 = .ok (.iconst 0, 1) := by decide +kernel
theorem dX5_bookOf_7 : decode cX5_bookOf 7 = .ok (.putfield 278, 3) := by decide +kernel
theorem dX5_bookOf_10 : decode cX5_bookOf 10 = .ok (.bipush (-9), 2) := by decide +kernel
theorem dX5_bookOf_12 : decode cX5_bookOf 12 = .ok (.istore 4, 2) := by decide +kernel
theorem dX5_bookOf_14 : decode cX5_bookOf 14 = .ok (.aload_n 0, 1) := by decide +kernel
theorem dX5_bookOf_15 : decode cX5_bookOf 15 = .ok (.invokevirtual 217, 3) := by decide +kernel
theorem dX5_bookOf_18 : decode cX5_bookOf 18 = .ok (.iconst 0, 1) := by decide +kernel
theorem dX5_bookOf_19 : decode cX5_bookOf 19 = .ok (.istore 5, 2) := by decide +kernel
theorem dX5_bookOf_21 : decode cX5_bookOf 21 = .ok (.iload 5, 2) := by decide +kernel
theorem dX5_bookOf_23 : decode cX5_bookOf 23 = .ok (.iload_n 3, 1) := by decide +kernel
theorem dX5_bookOf_24 : decode cX5_bookOf 24 = .ok (.if_icmp .ge 63, 3) := by decide +kernel
theorem dX5_bookOf_27 : decode cX5_bookOf 27 = .ok (.iload 4, 2) := by decide +kernel
theorem dX5_bookOf_29 : decode cX5_bookOf 29 = .ok (.ifCond .ge 58, 3) := by decide +kernel
theorem dX5_bookOf_32 : decode cX5_bookOf 32 = .ok (.aload_n 0, 1) := by decide +kernel
theorem dX5_bookOf_33 : decode cX5_bookOf 33 = .ok (.invokevirtual 149, 3) := by decide +kernel
theorem dX5_bookOf_36 : decode cX5_bookOf 36 = .ok (.aload_n 0, 1) := by decide +kernel
theorem dX5_bookOf_37 : decode cX5_bookOf 37 = .ok (.getfield 59, 3) := by decide +kernel
theorem dX5_bookOf_40 : decode cX5_bookOf 40 = .ok (.iload 5, 2) := by decide +kernel
theorem dX5_bookOf_42 : decode cX5_bookOf 42 = .ok (.iaload, 1) := by decide +kernel
theorem dX5_bookOf_43 : decode cX5_bookOf 43 = .ok (.aload_n 0, 1) := by decide +kernel
theorem dX5_bookOf_44 : decode cX5_bookOf 44 = .ok (.getfield 29, 3) := by decide +kernel
theorem dX5_bookOf_47 : decode cX5_bookOf 47 = .ok (.iload_n 1, 1) := by decide +kernel
theorem dX5_bookOf_48 : decode cX5_bookOf 48 = .ok (.iaload, 1) := by decide +kernel
theorem dX5_bookOf_49 : decode cX5_bookOf 49 = .ok (.if_icmp .gt 23, 3) := by decide +kernel
theorem dX5_bookOf_52 : decode cX5_bookOf 52 = .ok (.iload_n 2, 1) := by decide +kernel
theorem dX5_bookOf_53 : decode cX5_bookOf 53 = .ok (.ifCond .eq 24, 3) := by decide +kernel
theorem dX5_bookOf_56 : decode cX5_bookOf 56 = .ok (.aload_n 0, 1) := by decide +kernel
theorem dX5_bookOf_57 : decode cX5_bookOf 57 = .ok (.getfield 59, 3) := by decide +kernel
theorem dX5_bookOf_60 : decode cX5_bookOf 60 = .ok (.iload 5, 2) := by decide +kernel
theorem dX5_bookOf_62 : decode cX5_bookOf 62 = .ok (.iaload, 1) := by decide +kernel
theorem dX5_bookOf_63 : decode cX5_bookOf 63 = .ok (.aload_n 0, 1) := by decide +kernel
theorem dX5_bookOf_64 : decode cX5_bookOf 64 = .ok (.getfield 29, 3) := by decide +kernel
theorem dX5_bookOf_67 : decode cX5_bookOf 67 = .ok (.iload_n 1, 1) := by decide +kernel
theorem dX5_bookOf_68 : decode cX5_bookOf 68 = .ok (.iaload, 1) := by decide +kernel
theorem dX5_bookOf_69 : decode cX5_bookOf 69 = .ok (.if_icmp .eq 8, 3) := by decide +kernel
theorem dX5_bookOf_72 : decode cX5_bookOf 72 = .ok (.iload 5, 2) := by decide +kernel
theorem dX5_bookOf_74 : decode cX5_bookOf 74 = .ok (.goto 5, 3) := by decide +kernel
theorem dX5_bookOf_77 : decode cX5_bookOf 77 = .ok (.bipush (-9), 2) := by decide +kernel
theorem dX5_bookOf_79 : decode cX5_bookOf 79 = .ok (.istore 4, 2) := by decide +kernel
theorem dX5_bookOf_81 : decode cX5_bookOf 81 = .ok (.iinc 5 1, 3) := by decide +kernel
theorem dX5_bookOf_84 : decode cX5_bookOf 84 = .ok (.goto (-63), 3) := by decide +kernel
theorem dX5_bookOf_87 : decode cX5_bookOf 87 = .ok (.aload_n 0, 1) := by decide +kernel
theorem dX5_bookOf_88 : decode cX5_bookOf 88 = .ok (.invokevirtual 223, 3) := by decide +kernel
theorem dX5_bookOf_91 : decode cX5_bookOf 91 = .ok (.iload 4, 2) := by decide +kernel
theorem dX5_bookOf_93 : decode cX5_bookOf 93 = .ok (.ireturn, 1) := by decide +kernel
theorem dX5_found_0 : decode cX5_found 0 = .ok (.aload_n 0, 1) := by decide +kernel
theorem dX5_found_1 : decode cX5_found 1 = .ok (.iconst 0, 1) := by decide +kernel
theorem dX5_found_2 : decode cX5_found 2 = .ok (.putfield 68, 3) := by decide +kernel
theorem dX5_found_5 : decode cX5_found 5 = .ok (.aload_n 0, 1) := by decide +kernel
theorem dX5_found_6 : decode cX5_found 6 = .ok (.iload_n 1, 1) := by decide +kernel
theorem dX5_found_7 : decode cX5_found 7 = .ok (.invokevirtual 199, 3) := by decide +kernel
theorem dX5_found_10 : decode cX5_found 10 = .ok (.ifCond .eq 12, 3) := by decide +kernel
theorem dX5_found_13 : decode cX5_found 13 = .ok (.aload_n 0, 1) := by decide +kernel
theorem dX5_found_14 : decode cX5_found 14 = .ok (.iload_n 1, 1) := by decide +kernel
theorem dX5_found_15 : decode cX5_found 15 = .ok (.iconst 0, 1) := by decide +kernel
theorem dX5_found_16 : decode cX5_found 16 = .ok (.invokevirtual 281, 3) := by decide +kernel
theorem dX5_found_19 : decode cX5_found 19 = .ok (.goto 8, 3) := by decide +kernel
theorem dX5_found_22 : decode cX5_found 22 = .ok (.aload_n 0, 1) := by decide +kernel
theorem dX5_found_23 : decode cX5_found 23 = .ok (.iconst (-1), 1) := by decide +kernel
theorem dX5_found_24 : decode cX5_found 24 = .ok (.invokevirtual 152, 3) := by decide +kernel
theorem dX5_found_27 : decode cX5_found 27 = .ok (.ireturn, 1) := by decide +kernel
theorem dX5_judge_0 : decode cX5_judge 0 = .ok (.aload_n 0, 1) := by decide +kernel
theorem dX5_judge_1 : decode cX5_judge 1 = .ok (.iconst 0, 1) := by decide +kernel
theorem dX5_judge_2 : decode cX5_judge 2 = .ok (.putfield 68, 3) := by decide +kernel
theorem dX5_judge_5 : decode cX5_judge 5 = .ok (.aload_n 0, 1) := by decide +kernel
theorem dX5_judge_6 : decode cX5_judge 6 = .ok (.iload_n 1, 1) := by decide +kernel
theorem dX5_judge_7 : decode cX5_judge 7 = .ok (.invokevirtual 199, 3) := by decide +kernel
theorem dX5_judge_10 : decode cX5_judge 10 = .ok (.ifCond .eq 12, 3) := by decide +kernel
theorem dX5_judge_13 : decode cX5_judge 13 = .ok (.aload_n 0, 1) := by decide +kernel
theorem dX5_judge_14 : decode cX5_judge 14 = .ok (.iload_n 1, 1) := by decide +kernel
theorem dX5_judge_15 : decode cX5_judge 15 = .ok (.iconst 1, 1) := by decide +kernel
theorem dX5_judge_16 : decode cX5_judge 16 = .ok (.invokevirtual 281, 3) := by decide +kernel
theorem dX5_judge_19 : decode cX5_judge 19 = .ok (.goto 8, 3) := by decide +kernel
theorem dX5_judge_22 : decode cX5_judge 22 = .ok (.aload_n 0, 1) := by decide +kernel
theorem dX5_judge_23 : decode cX5_judge 23 = .ok (.iconst (-1), 1) := by decide +kernel
theorem dX5_judge_24 : decode cX5_judge 24 = .ok (.invokevirtual 152, 3) := by decide +kernel
theorem dX5_judge_27 : decode cX5_judge 27 = .ok (.ireturn, 1) := by decide +kernel
theorem dX5_told_0 : decode cX5_told 0 = .ok (.aload_n 0, 1) := by decide +kernel
theorem dX5_told_1 : decode cX5_told 1 = .ok (.iconst 0, 1) := by decide +kernel
theorem dX5_told_2 : decode cX5_told 2 = .ok (.putfield 68, 3) := by decide +kernel
theorem dX5_told_5 : decode cX5_told 5 = .ok (.aload_n 0, 1) := by decide +kernel
theorem dX5_told_6 : decode cX5_told 6 = .ok (.getfield 278, 3) := by decide +kernel
theorem dX5_told_9 : decode cX5_told 9 = .ok (.istore_n 1, 1) := by decide +kernel
theorem dX5_told_10 : decode cX5_told 10 = .ok (.aload_n 0, 1) := by decide +kernel
theorem dX5_told_11 : decode cX5_told 11 = .ok (.iconst 0, 1) := by decide +kernel
theorem dX5_told_12 : decode cX5_told 12 = .ok (.putfield 278, 3) := by decide +kernel
theorem dX5_told_15 : decode cX5_told 15 = .ok (.bipush (-9), 2) := by decide +kernel
theorem dX5_told_17 : decode cX5_told 17 = .ok (.istore_n 2, 1) := by decide +kernel
theorem dX5_told_18 : decode cX5_told 18 = .ok (.aload_n 0, 1) := by decide +kernel
theorem dX5_told_19 : decode cX5_told 19 = .ok (.invokevirtual 217, 3) := by decide +kernel
theorem dX5_told_22 : decode cX5_told 22 = .ok (.iconst 0, 1) := by decide +kernel
theorem dX5_told_23 : decode cX5_told 23 = .ok (.istore_n 3, 1) := by decide +kernel
theorem dX5_told_24 : decode cX5_told 24 = .ok (.iload_n 3, 1) := by decide +kernel
theorem dX5_told_25 : decode cX5_told 25 = .ok (.iconst 2, 1) := by decide +kernel
theorem dX5_told_26 : decode cX5_told 26 = .ok (.iadd, 1) := by decide +kernel
theorem dX5_told_27 : decode cX5_told 27 = .ok (.iload_n 1, 1) := by decide +kernel
theorem dX5_told_28 : decode cX5_told 28 = .ok (.if_icmp .ge 91, 3) := by decide +kernel
theorem dX5_told_31 : decode cX5_told 31 = .ok (.iload_n 2, 1) := by decide +kernel
theorem dX5_told_32 : decode cX5_told 32 = .ok (.ifCond .ge 87, 3) := by decide +kernel
theorem dX5_told_35 : decode cX5_told 35 = .ok (.aload_n 0, 1) := by decide +kernel
theorem dX5_told_36 : decode cX5_told 36 = .ok (.aload_n 0, 1) := by decide +kernel
theorem dX5_told_37 : decode cX5_told 37 = .ok (.getfield 59, 3) := by decide +kernel
theorem dX5_told_40 : decode cX5_told 40 = .ok (.iload_n 3, 1) := by decide +kernel
theorem dX5_told_41 : decode cX5_told 41 = .ok (.iaload, 1) := by decide +kernel
theorem dX5_told_42 : decode cX5_told 42 = .ok (.aload_n 0, 1) := by decide +kernel
theorem dX5_told_43 : decode cX5_told 43 = .ok (.getfield 59, 3) := by decide +kernel
theorem dX5_told_46 : decode cX5_told 46 = .ok (.iload_n 3, 1) := by decide +kernel
theorem dX5_told_47 : decode cX5_told 47 = .ok (.iconst 1, 1) := by decide +kernel
theorem dX5_told_48 : decode cX5_told 48 = .ok (.iadd, 1) := by decide +kernel
theorem dX5_told_49 : decode cX5_told 49 = .ok (.iaload, 1) := by decide +kernel
theorem dX5_told_50 : decode cX5_told 50 = .ok (.aload_n 0, 1) := by decide +kernel
theorem dX5_told_51 : decode cX5_told 51 = .ok (.getfield 59, 3) := by decide +kernel
theorem dX5_told_54 : decode cX5_told 54 = .ok (.iload_n 3, 1) := by decide +kernel
theorem dX5_told_55 : decode cX5_told 55 = .ok (.iconst 2, 1) := by decide +kernel
theorem dX5_told_56 : decode cX5_told 56 = .ok (.iadd, 1) := by decide +kernel
theorem dX5_told_57 : decode cX5_told 57 = .ok (.iaload, 1) := by decide +kernel
theorem dX5_told_58 : decode cX5_told 58 = .ok (.invokevirtual 211, 3) := by decide +kernel
theorem dX5_told_61 : decode cX5_told 61 = .ok (.ifCond .ge 8, 3) := by decide +kernel
theorem dX5_told_64 : decode cX5_told 64 = .ok (.iload_n 3, 1) := by decide +kernel
theorem dX5_told_65 : decode cX5_told 65 = .ok (.istore_n 2, 1) := by decide +kernel
theorem dX5_told_66 : decode cX5_told 66 = .ok (.goto 47, 3) := by decide +kernel
theorem dX5_told_69 : decode cX5_told 69 = .ok (.aload_n 0, 1) := by decide +kernel
theorem dX5_told_70 : decode cX5_told 70 = .ok (.aload_n 0, 1) := by decide +kernel
theorem dX5_told_71 : decode cX5_told 71 = .ok (.getfield 59, 3) := by decide +kernel
theorem dX5_told_74 : decode cX5_told 74 = .ok (.iload_n 3, 1) := by decide +kernel
theorem dX5_told_75 : decode cX5_told 75 = .ok (.iaload, 1) := by decide +kernel
theorem dX5_told_76 : decode cX5_told 76 = .ok (.aload_n 0, 1) := by decide +kernel
theorem dX5_told_77 : decode cX5_told 77 = .ok (.getfield 59, 3) := by decide +kernel
theorem dX5_told_80 : decode cX5_told 80 = .ok (.iload_n 3, 1) := by decide +kernel
theorem dX5_told_81 : decode cX5_told 81 = .ok (.iconst 1, 1) := by decide +kernel
theorem dX5_told_82 : decode cX5_told 82 = .ok (.iadd, 1) := by decide +kernel
theorem dX5_told_83 : decode cX5_told 83 = .ok (.iaload, 1) := by decide +kernel
theorem dX5_told_84 : decode cX5_told 84 = .ok (.bipush 9, 2) := by decide +kernel
theorem dX5_told_86 : decode cX5_told 86 = .ok (.if_icmp .ne 8, 3) := by decide +kernel
theorem dX5_told_89 : decode cX5_told 89 = .ok (.bipush 6, 2) := by decide +kernel
theorem dX5_told_91 : decode cX5_told 91 = .ok (.goto 11, 3) := by decide +kernel
theorem dX5_told_94 : decode cX5_told 94 = .ok (.aload_n 0, 1) := by decide +kernel
theorem dX5_told_95 : decode cX5_told 95 = .ok (.getfield 59, 3) := by decide +kernel
theorem dX5_told_98 : decode cX5_told 98 = .ok (.iload_n 3, 1) := by decide +kernel
theorem dX5_told_99 : decode cX5_told 99 = .ok (.iconst 1, 1) := by decide +kernel
theorem dX5_told_100 : decode cX5_told 100 = .ok (.iadd, 1) := by decide +kernel
theorem dX5_told_101 : decode cX5_told 101 = .ok (.iaload, 1) := by decide +kernel
theorem dX5_told_102 : decode cX5_told 102 = .ok (.aload_n 0, 1) := by decide +kernel
theorem dX5_told_103 : decode cX5_told 103 = .ok (.getfield 59, 3) := by decide +kernel
theorem dX5_told_106 : decode cX5_told 106 = .ok (.iload_n 3, 1) := by decide +kernel
theorem dX5_told_107 : decode cX5_told 107 = .ok (.iconst 2, 1) := by decide +kernel
theorem dX5_told_108 : decode cX5_told 108 = .ok (.iadd, 1) := by decide +kernel
theorem dX5_told_109 : decode cX5_told 109 = .ok (.iaload, 1) := by decide +kernel
theorem dX5_told_110 : decode cX5_told 110 = .ok (.invokevirtual 115, 3) := by decide +kernel
theorem dX5_told_113 : decode cX5_told 113 = .ok (.iinc 3 3, 3) := by decide +kernel
theorem dX5_told_116 : decode cX5_told 116 = .ok (.goto (-92), 3) := by decide +kernel
theorem dX5_told_119 : decode cX5_told 119 = .ok (.aload_n 0, 1) := by decide +kernel
theorem dX5_told_120 : decode cX5_told 120 = .ok (.invokevirtual 223, 3) := by decide +kernel
theorem dX5_told_123 : decode cX5_told 123 = .ok (.iload_n 2, 1) := by decide +kernel
theorem dX5_told_124 : decode cX5_told 124 = .ok (.ifCond .ge 9, 3) := by decide +kernel
theorem dX5_told_127 : decode cX5_told 127 = .ok (.iload_n 1, 1) := by decide +kernel
theorem dX5_told_128 : decode cX5_told 128 = .ok (.iconst 3, 1) := by decide +kernel
theorem dX5_told_129 : decode cX5_told 129 = .ok (.irem, 1) := by decide +kernel
theorem dX5_told_130 : decode cX5_told 130 = .ok (.ifCond .ne 7, 3) := by decide +kernel
theorem dX5_told_133 : decode cX5_told 133 = .ok (.iload_n 2, 1) := by decide +kernel
theorem dX5_told_134 : decode cX5_told 134 = .ok (.goto 4, 3) := by decide +kernel
theorem dX5_told_137 : decode cX5_told 137 = .ok (.iload_n 1, 1) := by decide +kernel
theorem dX5_told_138 : decode cX5_told 138 = .ok (.ireturn, 1) := by decide +kernel
theorem dX5_draw_0 : decode cX5_draw 0 = .ok (.aload_n 0, 1) := by decide +kernel
theorem dX5_draw_1 : decode cX5_draw 1 = .ok (.aload_n 0, 1) := by decide +kernel
theorem dX5_draw_2 : decode cX5_draw 2 = .ok (.getfield 285, 3) := by decide +kernel
theorem dX5_draw_5 : decode cX5_draw 5 = .ok (.ldc_w 288, 3) := by decide +kernel
theorem dX5_draw_8 : decode cX5_draw 8 = .ok (.imul, 1) := by decide +kernel
theorem dX5_draw_9 : decode cX5_draw 9 = .ok (.sipush 12345, 3) := by decide +kernel
theorem dX5_draw_12 : decode cX5_draw 12 = .ok (.iadd, 1) := by decide +kernel
theorem dX5_draw_13 : decode cX5_draw 13 = .ok (.putfield 285, 3) := by decide +kernel
theorem dX5_draw_16 : decode cX5_draw 16 = .ok (.aload_n 0, 1) := by decide +kernel
theorem dX5_draw_17 : decode cX5_draw 17 = .ok (.getfield 285, 3) := by decide +kernel
theorem dX5_draw_20 : decode cX5_draw 20 = .ok (.ldc_w 289, 3) := by decide +kernel
theorem dX5_draw_23 : decode cX5_draw 23 = .ok (.iand, 1) := by decide +kernel
theorem dX5_draw_24 : decode cX5_draw 24 = .ok (.ldc_w 290, 3) := by decide +kernel
theorem dX5_draw_27 : decode cX5_draw 27 = .ok (.idiv, 1) := by decide +kernel
theorem dX5_draw_28 : decode cX5_draw 28 = .ok (.iload_n 1, 1) := by decide +kernel
theorem dX5_draw_29 : decode cX5_draw 29 = .ok (.irem, 1) := by decide +kernel
theorem dX5_draw_30 : decode cX5_draw 30 = .ok (.ireturn, 1) := by decide +kernel
theorem dX5_seeds_0 : decode cX5_seeds 0 = .ok (.aload_n 0, 1) := by decide +kernel
theorem dX5_seeds_1 : decode cX5_seeds 1 = .ok (.iconst 0, 1) := by decide +kernel
theorem dX5_seeds_2 : decode cX5_seeds 2 = .ok (.putfield 68, 3) := by decide +kernel
theorem dX5_seeds_5 : decode cX5_seeds 5 = .ok (.iload_n 1, 1) := by decide +kernel
theorem dX5_seeds_6 : decode cX5_seeds 6 = .ok (.iconst 1, 1) := by decide +kernel
theorem dX5_seeds_7 : decode cX5_seeds 7 = .ok (.bipush 20, 2) := by decide +kernel
theorem dX5_seeds_9 : decode cX5_seeds 9 = .ok (.invokestatic 214, 3) := by decide +kernel
theorem dX5_seeds_12 : decode cX5_seeds 12 = .ok (.istore_n 3, 1) := by decide +kernel
theorem dX5_seeds_13 : decode cX5_seeds 13 = .ok (.iload_n 3, 1) := by decide +kernel
theorem dX5_seeds_14 : decode cX5_seeds 14 = .ok (.ifCond .ne 15, 3) := by decide +kernel
theorem dX5_seeds_17 : decode cX5_seeds 17 = .ok (.aload_n 0, 1) := by decide +kernel
theorem dX5_seeds_18 : decode cX5_seeds 18 = .ok (.getfield 71, 3) := by decide +kernel
theorem dX5_seeds_21 : decode cX5_seeds 21 = .ok (.ifCond .ne 8, 3) := by decide +kernel
theorem dX5_seeds_24 : decode cX5_seeds 24 = .ok (.bipush (-3), 2) := by decide +kernel
theorem dX5_seeds_26 : decode cX5_seeds 26 = .ok (.goto 4, 3) := by decide +kernel
theorem dX5_seeds_29 : decode cX5_seeds 29 = .ok (.iload_n 3, 1) := by decide +kernel
theorem dX5_seeds_30 : decode cX5_seeds 30 = .ok (.istore_n 3, 1) := by decide +kernel
theorem dX5_seeds_31 : decode cX5_seeds 31 = .ok (.iload_n 3, 1) := by decide +kernel
theorem dX5_seeds_32 : decode cX5_seeds 32 = .ok (.ifCond .ge 9, 3) := by decide +kernel
theorem dX5_seeds_35 : decode cX5_seeds 35 = .ok (.aload_n 0, 1) := by decide +kernel
theorem dX5_seeds_36 : decode cX5_seeds 36 = .ok (.iload_n 3, 1) := by decide +kernel
theorem dX5_seeds_37 : decode cX5_seeds 37 = .ok (.invokevirtual 152, 3) := by decide +kernel
theorem dX5_seeds_40 : decode cX5_seeds 40 = .ok (.ireturn, 1) := by decide +kernel
theorem dX5_seeds_41 : decode cX5_seeds 41 = .ok (.aload_n 0, 1) := by decide +kernel
theorem dX5_seeds_42 : decode cX5_seeds 42 = .ok (.invokevirtual 217, 3) := by decide +kernel
theorem dX5_seeds_45 : decode cX5_seeds 45 = .ok (.aload_n 0, 1) := by decide +kernel
theorem dX5_seeds_46 : decode cX5_seeds 46 = .ok (.iload_n 2, 1) := by decide +kernel
theorem dX5_seeds_47 : decode cX5_seeds 47 = .ok (.putfield 285, 3) := by decide +kernel
theorem dX5_seeds_50 : decode cX5_seeds 50 = .ok (.iconst 0, 1) := by decide +kernel
theorem dX5_seeds_51 : decode cX5_seeds 51 = .ok (.istore 4, 2) := by decide +kernel
theorem dX5_seeds_53 : decode cX5_seeds 53 = .ok (.iload 4, 2) := by decide +kernel
theorem dX5_seeds_55 : decode cX5_seeds 55 = .ok (.iload_n 1, 1) := by decide +kernel
theorem dX5_seeds_56 : decode cX5_seeds 56 = .ok (.if_icmp .ge 50, 3) := by decide +kernel
theorem dX5_seeds_59 : decode cX5_seeds 59 = .ok (.aload_n 0, 1) := by decide +kernel
theorem dX5_seeds_60 : decode cX5_seeds 60 = .ok (.aload_n 0, 1) := by decide +kernel
theorem dX5_seeds_61 : decode cX5_seeds 61 = .ok (.getfield 71, 3) := by decide +kernel
theorem dX5_seeds_64 : decode cX5_seeds 64 = .ok (.invokevirtual 291, 3) := by decide +kernel
theorem dX5_seeds_67 : decode cX5_seeds 67 = .ok (.istore 5, 2) := by decide +kernel
theorem dX5_seeds_69 : decode cX5_seeds 69 = .ok (.aload_n 0, 1) := by decide +kernel
theorem dX5_seeds_70 : decode cX5_seeds 70 = .ok (.getfield 29, 3) := by decide +kernel
theorem dX5_seeds_73 : decode cX5_seeds 73 = .ok (.iload 5, 2) := by decide +kernel
theorem dX5_seeds_75 : decode cX5_seeds 75 = .ok (.sipush 9999, 3) := by decide +kernel
theorem dX5_seeds_78 : decode cX5_seeds 78 = .ok (.aload_n 0, 1) := by decide +kernel
theorem dX5_seeds_79 : decode cX5_seeds 79 = .ok (.getfield 29, 3) := by decide +kernel
theorem dX5_seeds_82 : decode cX5_seeds 82 = .ok (.iload 5, 2) := by decide +kernel
theorem dX5_seeds_84 : decode cX5_seeds 84 = .ok (.iaload, 1) := by decide +kernel
theorem dX5_seeds_85 : decode cX5_seeds 85 = .ok (.aload_n 0, 1) := by decide +kernel
theorem dX5_seeds_86 : decode cX5_seeds 86 = .ok (.bipush 10, 2) := by decide +kernel
theorem dX5_seeds_88 : decode cX5_seeds 88 = .ok (.invokevirtual 291, 3) := by decide +kernel
theorem dX5_seeds_91 : decode cX5_seeds 91 = .ok (.iadd, 1) := by decide +kernel
theorem dX5_seeds_92 : decode cX5_seeds 92 = .ok (.invokestatic 99, 3) := by decide +kernel
theorem dX5_seeds_95 : decode cX5_seeds 95 = .ok (.iastore, 1) := by decide +kernel
theorem dX5_seeds_96 : decode cX5_seeds 96 = .ok (.aload_n 0, 1) := by decide +kernel
theorem dX5_seeds_97 : decode cX5_seeds 97 = .ok (.invokevirtual 149, 3) := by decide +kernel
theorem dX5_seeds_100 : decode cX5_seeds 100 = .ok (.iinc 4 1, 3) := by decide +kernel
theorem dX5_seeds_103 : decode cX5_seeds 103 = .ok (.goto (-50), 3) := by decide +kernel
theorem dX5_seeds_106 : decode cX5_seeds 106 = .ok (.aload_n 0, 1) := by decide +kernel
theorem dX5_seeds_107 : decode cX5_seeds 107 = .ok (.invokevirtual 233, 3) := by decide +kernel
theorem dX5_seeds_110 : decode cX5_seeds 110 = .ok (.istore 4, 2) := by decide +kernel
theorem dX5_seeds_112 : decode cX5_seeds 112 = .ok (.aload_n 0, 1) := by decide +kernel
theorem dX5_seeds_113 : decode cX5_seeds 113 = .ok (.invokevirtual 223, 3) := by decide +kernel
theorem dX5_seeds_116 : decode cX5_seeds 116 = .ok (.iload 4, 2) := by decide +kernel
theorem dX5_seeds_118 : decode cX5_seeds 118 = .ok (.ireturn, 1) := by decide +kernel
theorem dX5_carryMore_0 : decode cX5_carryMore 0 = .ok (.aload_n 0, 1) := by decide +kernel
theorem dX5_carryMore_1 : decode cX5_carryMore 1 = .ok (.getfield 132, 3) := by decide +kernel
theorem dX5_carryMore_4 : decode cX5_carryMore 4 = .ok (.ifCond .eq 10, 3) := by decide +kernel
theorem dX5_carryMore_7 : decode cX5_carryMore 7 = .ok (.aload_n 0, 1) := by decide +kernel
theorem dX5_carryMore_8 : decode cX5_carryMore 8 = .ok (.getfield 65, 3) := by decide +kernel
theorem dX5_carryMore_11 : decode cX5_carryMore 11 = .ok (.iload_n 1, 1) := by decide +kernel
theorem dX5_carryMore_12 : decode cX5_carryMore 12 = .ok (.iload_n 2, 1) := by decide +kernel
theorem dX5_carryMore_13 : decode cX5_carryMore 13 = .ok (.iastore, 1) := by decide +kernel
theorem dX5_carryMore_14 : decode cX5_carryMore 14 = .ok (.aload_n 0, 1) := by decide +kernel
theorem dX5_carryMore_15 : decode cX5_carryMore 15 = .ok (.getfield 65, 3) := by decide +kernel
theorem dX5_carryMore_18 : decode cX5_carryMore 18 = .ok (.iload_n 1, 1) := by decide +kernel
theorem dX5_carryMore_19 : decode cX5_carryMore 19 = .ok (.iaload, 1) := by decide +kernel
theorem dX5_carryMore_20 : decode cX5_carryMore 20 = .ok (.ireturn, 1) := by decide +kernel
theorem dX5_carryAll_0 : decode cX5_carryAll 0 = .ok (.aload_n 0, 1) := by decide +kernel
theorem dX5_carryAll_1 : decode cX5_carryAll 1 = .ok (.aload_n 0, 1) := by decide +kernel
theorem dX5_carryAll_2 : decode cX5_carryAll 2 = .ok (.getfield 62, 3) := by decide +kernel
theorem dX5_carryAll_5 : decode cX5_carryAll 5 = .ok (.iload_n 1, 1) := by decide +kernel
theorem dX5_carryAll_6 : decode cX5_carryAll 6 = .ok (.invokevirtual 145, 3) := by decide +kernel
theorem dX5_carryAll_9 : decode cX5_carryAll 9 = .ok (.aload_n 0, 1) := by decide +kernel
theorem dX5_carryAll_10 : decode cX5_carryAll 10 = .ok (.aload_n 0, 1) := by decide +kernel
theorem dX5_carryAll_11 : decode cX5_carryAll 11 = .ok (.iconst 0, 1) := by decide +kernel
theorem dX5_carryAll_12 : decode cX5_carryAll 12 = .ok (.aload_n 0, 1) := by decide +kernel
theorem dX5_carryAll_13 : decode cX5_carryAll 13 = .ok (.getfield 71, 3) := by decide +kernel
theorem dX5_carryAll_16 : decode cX5_carryAll 16 = .ok (.invokevirtual 294, 3) := by decide +kernel
theorem dX5_carryAll_19 : decode cX5_carryAll 19 = .ok (.putfield 71, 3) := by decide +kernel
theorem dX5_carryAll_22 : decode cX5_carryAll 22 = .ok (.aload_n 0, 1) := by decide +kernel
theorem dX5_carryAll_23 : decode cX5_carryAll 23 = .ok (.aload_n 0, 1) := by decide +kernel
theorem dX5_carryAll_24 : decode cX5_carryAll 24 = .ok (.iconst 1, 1) := by decide +kernel
theorem dX5_carryAll_25 : decode cX5_carryAll 25 = .ok (.aload_n 0, 1) := by decide +kernel
theorem dX5_carryAll_26 : decode cX5_carryAll 26 = .ok (.getfield 7, 3) := by decide +kernel
theorem dX5_carryAll_29 : decode cX5_carryAll 29 = .ok (.invokevirtual 294, 3) := by decide +kernel
theorem dX5_carryAll_32 : decode cX5_carryAll 32 = .ok (.putfield 7, 3) := by decide +kernel
theorem dX5_carryAll_35 : decode cX5_carryAll 35 = .ok (.aload_n 0, 1) := by decide +kernel
theorem dX5_carryAll_36 : decode cX5_carryAll 36 = .ok (.aload_n 0, 1) := by decide +kernel
theorem dX5_carryAll_37 : decode cX5_carryAll 37 = .ok (.iconst 2, 1) := by decide +kernel
theorem dX5_carryAll_38 : decode cX5_carryAll 38 = .ok (.aload_n 0, 1) := by decide +kernel
theorem dX5_carryAll_39 : decode cX5_carryAll 39 = .ok (.getfield 13, 3) := by decide +kernel
theorem dX5_carryAll_42 : decode cX5_carryAll 42 = .ok (.invokevirtual 294, 3) := by decide +kernel
theorem dX5_carryAll_45 : decode cX5_carryAll 45 = .ok (.putfield 13, 3) := by decide +kernel
theorem dX5_carryAll_48 : decode cX5_carryAll 48 = .ok (.iconst 0, 1) := by decide +kernel
theorem dX5_carryAll_49 : decode cX5_carryAll 49 = .ok (.istore_n 2, 1) := by decide +kernel
theorem dX5_carryAll_50 : decode cX5_carryAll 50 = .ok (.iload_n 2, 1) := by decide +kernel
theorem dX5_carryAll_51 : decode cX5_carryAll 51 = .ok (.bipush 6, 2) := by decide +kernel
theorem dX5_carryAll_53 : decode cX5_carryAll 53 = .ok (.if_icmp .ge 88, 3) := by decide +kernel
theorem dX5_carryAll_56 : decode cX5_carryAll 56 = .ok (.aload_n 0, 1) := by decide +kernel
theorem dX5_carryAll_57 : decode cX5_carryAll 57 = .ok (.getfield 16, 3) := by decide +kernel
theorem dX5_carryAll_60 : decode cX5_carryAll 60 = .ok (.iload_n 2, 1) := by decide +kernel
theorem dX5_carryAll_61 : decode cX5_carryAll 61 = .ok (.aload_n 0, 1) := by decide +kernel
theorem dX5_carryAll_62 : decode cX5_carryAll 62 = .ok (.iconst 3, 1) := by decide +kernel
theorem dX5_carryAll_63 : decode cX5_carryAll 63 = .ok (.iload_n 2, 1) := by decide +kernel
theorem dX5_carryAll_64 : decode cX5_carryAll 64 = .ok (.iadd, 1) := by decide +kernel
theorem dX5_carryAll_65 : decode cX5_carryAll 65 = .ok (.aload_n 0, 1) := by decide +kernel
theorem dX5_carryAll_66 : decode cX5_carryAll 66 = .ok (.getfield 16, 3) := by decide +kernel
theorem dX5_carryAll_69 : decode cX5_carryAll 69 = .ok (.iload_n 2, 1) := by decide +kernel
theorem dX5_carryAll_70 : decode cX5_carryAll 70 = .ok (.iaload, 1) := by decide +kernel
theorem dX5_carryAll_71 : decode cX5_carryAll 71 = .ok (.invokevirtual 294, 3) := by decide +kernel
theorem dX5_carryAll_74 : decode cX5_carryAll 74 = .ok (.iastore, 1) := by decide +kernel
theorem dX5_carryAll_75 : decode cX5_carryAll 75 = .ok (.aload_n 0, 1) := by decide +kernel
theorem dX5_carryAll_76 : decode cX5_carryAll 76 = .ok (.getfield 20, 3) := by decide +kernel
theorem dX5_carryAll_79 : decode cX5_carryAll 79 = .ok (.iload_n 2, 1) := by decide +kernel
theorem dX5_carryAll_80 : decode cX5_carryAll 80 = .ok (.aload_n 0, 1) := by decide +kernel
theorem dX5_carryAll_81 : decode cX5_carryAll 81 = .ok (.bipush 9, 2) := by decide +kernel
theorem dX5_carryAll_83 : decode cX5_carryAll 83 = .ok (.iload_n 2, 1) := by decide +kernel
theorem dX5_carryAll_84 : decode cX5_carryAll 84 = .ok (.iadd, 1) := by decide +kernel
theorem dX5_carryAll_85 : decode cX5_carryAll 85 = .ok (.aload_n 0, 1) := by decide +kernel
theorem dX5_carryAll_86 : decode cX5_carryAll 86 = .ok (.getfield 20, 3) := by decide +kernel
theorem dX5_carryAll_89 : decode cX5_carryAll 89 = .ok (.iload_n 2, 1) := by decide +kernel
theorem dX5_carryAll_90 : decode cX5_carryAll 90 = .ok (.iaload, 1) := by decide +kernel
theorem dX5_carryAll_91 : decode cX5_carryAll 91 = .ok (.invokevirtual 294, 3) := by decide +kernel
theorem dX5_carryAll_94 : decode cX5_carryAll 94 = .ok (.iastore, 1) := by decide +kernel
theorem dX5_carryAll_95 : decode cX5_carryAll 95 = .ok (.aload_n 0, 1) := by decide +kernel
theorem dX5_carryAll_96 : decode cX5_carryAll 96 = .ok (.getfield 23, 3) := by decide +kernel
theorem dX5_carryAll_99 : decode cX5_carryAll 99 = .ok (.iload_n 2, 1) := by decide +kernel
theorem dX5_carryAll_100 : decode cX5_carryAll 100 = .ok (.aload_n 0, 1) := by decide +kernel
theorem dX5_carryAll_101 : decode cX5_carryAll 101 = .ok (.bipush 15, 2) := by decide +kernel
theorem dX5_carryAll_103 : decode cX5_carryAll 103 = .ok (.iload_n 2, 1) := by decide +kernel
theorem dX5_carryAll_104 : decode cX5_carryAll 104 = .ok (.iadd, 1) := by decide +kernel
theorem dX5_carryAll_105 : decode cX5_carryAll 105 = .ok (.aload_n 0, 1) := by decide +kernel
theorem dX5_carryAll_106 : decode cX5_carryAll 106 = .ok (.getfield 23, 3) := by decide +kernel
theorem dX5_carryAll_109 : decode cX5_carryAll 109 = .ok (.iload_n 2, 1) := by decide +kernel
theorem dX5_carryAll_110 : decode cX5_carryAll 110 = .ok (.iaload, 1) := by decide +kernel
theorem dX5_carryAll_111 : decode cX5_carryAll 111 = .ok (.invokevirtual 294, 3) := by decide +kernel
theorem dX5_carryAll_114 : decode cX5_carryAll 114 = .ok (.iastore, 1) := by decide +kernel
theorem dX5_carryAll_115 : decode cX5_carryAll 115 = .ok (.aload_n 0, 1) := by decide +kernel
theorem dX5_carryAll_116 : decode cX5_carryAll 116 = .ok (.getfield 26, 3) := by decide +kernel
theorem dX5_carryAll_119 : decode cX5_carryAll 119 = .ok (.iload_n 2, 1) := by decide +kernel
theorem dX5_carryAll_120 : decode cX5_carryAll 120 = .ok (.aload_n 0, 1) := by decide +kernel
theorem dX5_carryAll_121 : decode cX5_carryAll 121 = .ok (.bipush 21, 2) := by decide +kernel
theorem dX5_carryAll_123 : decode cX5_carryAll 123 = .ok (.iload_n 2, 1) := by decide +kernel
theorem dX5_carryAll_124 : decode cX5_carryAll 124 = .ok (.iadd, 1) := by decide +kernel
theorem dX5_carryAll_125 : decode cX5_carryAll 125 = .ok (.aload_n 0, 1) := by decide +kernel
theorem dX5_carryAll_126 : decode cX5_carryAll 126 = .ok (.getfield 26, 3) := by decide +kernel
theorem dX5_carryAll_129 : decode cX5_carryAll 129 = .ok (.iload_n 2, 1) := by decide +kernel
theorem dX5_carryAll_130 : decode cX5_carryAll 130 = .ok (.iaload, 1) := by decide +kernel
theorem dX5_carryAll_131 : decode cX5_carryAll 131 = .ok (.invokevirtual 294, 3) := by decide +kernel
theorem dX5_carryAll_134 : decode cX5_carryAll 134 = .ok (.iastore, 1) := by decide +kernel
theorem dX5_carryAll_135 : decode cX5_carryAll 135 = .ok (.iinc 2 1, 3) := by decide +kernel
theorem dX5_carryAll_138 : decode cX5_carryAll 138 = .ok (.goto (-88), 3) := by decide +kernel
theorem dX5_carryAll_141 : decode cX5_carryAll 141 = .ok (.return_, 1) := by decide +kernel
theorem dX5_image_0 : decode cX5_image 0 = .ok (.aload_n 0, 1) := by decide +kernel
theorem dX5_image_1 : decode cX5_image 1 = .ok (.iconst 0, 1) := by decide +kernel
theorem dX5_image_2 : decode cX5_image 2 = .ok (.putfield 68, 3) := by decide +kernel
theorem dX5_image_5 : decode cX5_image 5 = .ok (.aload_n 0, 1) := by decide +kernel
theorem dX5_image_6 : decode cX5_image 6 = .ok (.iconst 1, 1) := by decide +kernel
theorem dX5_image_7 : decode cX5_image 7 = .ok (.putfield 297, 3) := by decide +kernel
theorem dX5_image_10 : decode cX5_image 10 = .ok (.aload_n 0, 1) := by decide +kernel
theorem dX5_image_11 : decode cX5_image 11 = .ok (.iconst 1, 1) := by decide +kernel
theorem dX5_image_12 : decode cX5_image 12 = .ok (.invokevirtual 300, 3) := by decide +kernel
theorem dX5_image_15 : decode cX5_image 15 = .ok (.aload_n 0, 1) := by decide +kernel
theorem dX5_image_16 : decode cX5_image 16 = .ok (.getfield 78, 3) := by decide +kernel
theorem dX5_image_19 : decode cX5_image 19 = .ok (.ireturn, 1) := by decide +kernel
theorem dX5_restore_0 : decode cX5_restore 0 = .ok (.aload_n 0, 1) := by decide +kernel
theorem dX5_restore_1 : decode cX5_restore 1 = .ok (.iconst 0, 1) := by decide +kernel
theorem dX5_restore_2 : decode cX5_restore 2 = .ok (.putfield 68, 3) := by decide +kernel
theorem dX5_restore_5 : decode cX5_restore 5 = .ok (.aload_n 0, 1) := by decide +kernel
theorem dX5_restore_6 : decode cX5_restore 6 = .ok (.getfield 297, 3) := by decide +kernel
theorem dX5_restore_9 : decode cX5_restore 9 = .ok (.ifCond .ne 10, 3) := by decide +kernel
theorem dX5_restore_12 : decode cX5_restore 12 = .ok (.aload_n 0, 1) := by decide +kernel
theorem dX5_restore_13 : decode cX5_restore 13 = .ok (.bipush (-3), 2) := by decide +kernel
theorem dX5_restore_15 : decode cX5_restore 15 = .ok (.invokevirtual 152, 3) := by decide +kernel
theorem dX5_restore_18 : decode cX5_restore 18 = .ok (.ireturn, 1) := by decide +kernel
theorem dX5_restore_19 : decode cX5_restore 19 = .ok (.aload_n 0, 1) := by decide +kernel
theorem dX5_restore_20 : decode cX5_restore 20 = .ok (.iconst 0, 1) := by decide +kernel
theorem dX5_restore_21 : decode cX5_restore 21 = .ok (.invokevirtual 300, 3) := by decide +kernel
theorem dX5_restore_24 : decode cX5_restore 24 = .ok (.aload_n 0, 1) := by decide +kernel
theorem dX5_restore_25 : decode cX5_restore 25 = .ok (.getfield 78, 3) := by decide +kernel
theorem dX5_restore_28 : decode cX5_restore 28 = .ok (.ireturn, 1) := by decide +kernel
theorem dX5_sum_0 : decode cX5_sum 0 = .ok (.iconst 0, 1) := by decide +kernel
theorem dX5_sum_1 : decode cX5_sum 1 = .ok (.istore_n 2, 1) := by decide +kernel
theorem dX5_sum_2 : decode cX5_sum 2 = .ok (.iconst 0, 1) := by decide +kernel
theorem dX5_sum_3 : decode cX5_sum 3 = .ok (.istore_n 3, 1) := by decide +kernel
theorem dX5_sum_4 : decode cX5_sum 4 = .ok (.iload_n 3, 1) := by decide +kernel
theorem dX5_sum_5 : decode cX5_sum 5 = .ok (.aload_n 0, 1) := by decide +kernel
theorem dX5_sum_6 : decode cX5_sum 6 = .ok (.getfield 71, 3) := by decide +kernel
theorem dX5_sum_9 : decode cX5_sum 9 = .ok (.if_icmp .ge 37, 3) := by decide +kernel
theorem dX5_sum_12 : decode cX5_sum 12 = .ok (.iload_n 2, 1) := by decide +kernel
theorem dX5_sum_13 : decode cX5_sum 13 = .ok (.iload_n 1, 1) := by decide +kernel
theorem dX5_sum_14 : decode cX5_sum 14 = .ok (.ifCond .eq 15, 3) := by decide +kernel
theorem dX5_sum_17 : decode cX5_sum 17 = .ok (.aload_n 0, 1) := by decide +kernel
theorem dX5_sum_18 : decode cX5_sum 18 = .ok (.aload_n 0, 1) := by decide +kernel
theorem dX5_sum_19 : decode cX5_sum 19 = .ok (.getfield 78, 3) := by decide +kernel
theorem dX5_sum_22 : decode cX5_sum 22 = .ok (.iload_n 3, 1) := by decide +kernel
theorem dX5_sum_23 : decode cX5_sum 23 = .ok (.invokevirtual 102, 3) := by decide +kernel
theorem dX5_sum_26 : decode cX5_sum 26 = .ok (.goto 12, 3) := by decide +kernel
theorem dX5_sum_29 : decode cX5_sum 29 = .ok (.aload_n 0, 1) := by decide +kernel
theorem dX5_sum_30 : decode cX5_sum 30 = .ok (.aload_n 0, 1) := by decide +kernel
theorem dX5_sum_31 : decode cX5_sum 31 = .ok (.getfield 78, 3) := by decide +kernel
theorem dX5_sum_34 : decode cX5_sum 34 = .ok (.iload_n 3, 1) := by decide +kernel
theorem dX5_sum_35 : decode cX5_sum 35 = .ok (.invokevirtual 204, 3) := by decide +kernel
theorem dX5_sum_38 : decode cX5_sum 38 = .ok (.iadd, 1) := by decide +kernel
theorem dX5_sum_39 : decode cX5_sum 39 = .ok (.istore_n 2, 1) := by decide +kernel
theorem dX5_sum_40 : decode cX5_sum 40 = .ok (.iinc 3 1, 3) := by decide +kernel
theorem dX5_sum_43 : decode cX5_sum 43 = .ok (.goto (-39), 3) := by decide +kernel
theorem dX5_sum_46 : decode cX5_sum 46 = .ok (.iload_n 2, 1) := by decide +kernel
theorem dX5_sum_47 : decode cX5_sum 47 = .ok (.ireturn, 1) := by decide +kernel
theorem dX5_count_0 : decode cX5_count 0 = .ok (.aload_n 0, 1) := by decide +kernel
theorem dX5_count_1 : decode cX5_count 1 = .ok (.iconst 0, 1) := by decide +kernel
theorem dX5_count_2 : decode cX5_count 2 = .ok (.putfield 68, 3) := by decide +kernel
theorem dX5_count_5 : decode cX5_count 5 = .ok (.iload_n 1, 1) := by decide +kernel
theorem dX5_count_6 : decode cX5_count 6 = .ok (.tableswitch 79 0 6 #[42, 47, 52, 57, 63, 69, 74], 42) := by decide +kernel
theorem dX5_count_48 : decode cX5_count 48 = .ok (.aload_n 0, 1) := by decide +kernel
theorem dX5_count_49 : decode cX5_count 49 = .ok (.getfield 71, 3) := by decide +kernel
theorem dX5_count_52 : decode cX5_count 52 = .ok (.ireturn, 1) := by decide +kernel
theorem dX5_count_53 : decode cX5_count 53 = .ok (.aload_n 0, 1) := by decide +kernel
theorem dX5_count_54 : decode cX5_count 54 = .ok (.getfield 78, 3) := by decide +kernel
theorem dX5_count_57 : decode cX5_count 57 = .ok (.ireturn, 1) := by decide +kernel
theorem dX5_count_58 : decode cX5_count 58 = .ok (.aload_n 0, 1) := by decide +kernel
theorem dX5_count_59 : decode cX5_count 59 = .ok (.invokevirtual 233, 3) := by decide +kernel
theorem dX5_count_62 : decode cX5_count 62 = .ok (.ireturn, 1) := by decide +kernel
theorem dX5_count_63 : decode cX5_count 63 = .ok (.aload_n 0, 1) := by decide +kernel
theorem dX5_count_64 : decode cX5_count 64 = .ok (.iconst 1, 1) := by decide +kernel
theorem dX5_count_65 : decode cX5_count 65 = .ok (.invokevirtual 304, 3) := by decide +kernel
theorem dX5_count_68 : decode cX5_count 68 = .ok (.ireturn, 1) := by decide +kernel
theorem dX5_count_69 : decode cX5_count 69 = .ok (.aload_n 0, 1) := by decide +kernel
theorem dX5_count_70 : decode cX5_count 70 = .ok (.iconst 0, 1) := by decide +kernel
theorem dX5_count_71 : decode cX5_count 71 = .ok (.invokevirtual 304, 3) := by decide +kernel
theorem dX5_count_74 : decode cX5_count 74 = .ok (.ireturn, 1) := by decide +kernel
theorem dX5_count_75 : decode cX5_count 75 = .ok (.aload_n 0, 1) := by decide +kernel
theorem dX5_count_76 : decode cX5_count 76 = .ok (.getfield 155, 3) := by decide +kernel
theorem dX5_count_79 : decode cX5_count 79 = .ok (.ireturn, 1) := by decide +kernel
theorem dX5_count_80 : decode cX5_count 80 = .ok (.aload_n 0, 1) := by decide +kernel
theorem dX5_count_81 : decode cX5_count 81 = .ok (.getfield 278, 3) := by decide +kernel
theorem dX5_count_84 : decode cX5_count 84 = .ok (.ireturn, 1) := by decide +kernel
theorem dX5_count_85 : decode cX5_count 85 = .ok (.iload_n 1, 1) := by decide +kernel
theorem dX5_count_86 : decode cX5_count 86 = .ok (.i2l, 1) := by decide +kernel
theorem dX5_count_87 : decode cX5_count 87 = .ok (.ldc2_w 308, 3) := by decide +kernel
theorem dX5_count_90 : decode cX5_count 90 = .ok (.ldc2_w 310, 3) := by decide +kernel
theorem dX5_count_93 : decode cX5_count 93 = .ok (.invokestatic 74, 3) := by decide +kernel
theorem dX5_count_96 : decode cX5_count 96 = .ok (.ifCond .eq 15, 3) := by decide +kernel
theorem dX5_count_99 : decode cX5_count 99 = .ok (.aload_n 0, 1) := by decide +kernel
theorem dX5_count_100 : decode cX5_count 100 = .ok (.getfield 35, 3) := by decide +kernel
theorem dX5_count_103 : decode cX5_count 103 = .ok (.iload_n 1, 1) := by decide +kernel
theorem dX5_count_104 : decode cX5_count 104 = .ok (.bipush 10, 2) := by decide +kernel
theorem dX5_count_106 : decode cX5_count 106 = .ok (.isub, 1) := by decide +kernel
theorem dX5_count_107 : decode cX5_count 107 = .ok (.iaload, 1) := by decide +kernel
theorem dX5_count_108 : decode cX5_count 108 = .ok (.goto 5, 3) := by decide +kernel
theorem dX5_count_111 : decode cX5_count 111 = .ok (.bipush (-9), 2) := by decide +kernel
theorem dX5_count_113 : decode cX5_count 113 = .ok (.ireturn, 1) := by decide +kernel
theorem dJ6_bitCount_0f7a4_0 : decode cJ6_bitCount_0f7a4 0 = .ok (.iload_n 0, 1) := by decide +kernel
theorem dJ6_bitCount_0f7a4_1 : decode cJ6_bitCount_0f7a4 1 = .ok (.iload_n 0, 1) := by decide +kernel
theorem dJ6_bitCount_0f7a4_2 : decode cJ6_bitCount_0f7a4 2 = .ok (.iconst 1, 1) := by decide +kernel
theorem dJ6_bitCount_0f7a4_3 : decode cJ6_bitCount_0f7a4 3 = .ok (.iushr, 1) := by decide +kernel
theorem dJ6_bitCount_0f7a4_4 : decode cJ6_bitCount_0f7a4 4 = .ok (.ldc_w 265, 3) := by decide +kernel
theorem dJ6_bitCount_0f7a4_7 : decode cJ6_bitCount_0f7a4 7 = .ok (.iand, 1) := by decide +kernel
theorem dJ6_bitCount_0f7a4_8 : decode cJ6_bitCount_0f7a4 8 = .ok (.isub, 1) := by decide +kernel
theorem dJ6_bitCount_0f7a4_9 : decode cJ6_bitCount_0f7a4 9 = .ok (.istore_n 0, 1) := by decide +kernel
theorem dJ6_bitCount_0f7a4_10 : decode cJ6_bitCount_0f7a4 10 = .ok (.iload_n 0, 1) := by decide +kernel
theorem dJ6_bitCount_0f7a4_11 : decode cJ6_bitCount_0f7a4 11 = .ok (.ldc_w 266, 3) := by decide +kernel
theorem dJ6_bitCount_0f7a4_14 : decode cJ6_bitCount_0f7a4 14 = .ok (.iand, 1) := by decide +kernel
theorem dJ6_bitCount_0f7a4_15 : decode cJ6_bitCount_0f7a4 15 = .ok (.iload_n 0, 1) := by decide +kernel
theorem dJ6_bitCount_0f7a4_16 : decode cJ6_bitCount_0f7a4 16 = .ok (.iconst 2, 1) := by decide +kernel
theorem dJ6_bitCount_0f7a4_17 : decode cJ6_bitCount_0f7a4 17 = .ok (.iushr, 1) := by decide +kernel
theorem dJ6_bitCount_0f7a4_18 : decode cJ6_bitCount_0f7a4 18 = .ok (.ldc_w 266, 3) := by decide +kernel
theorem dJ6_bitCount_0f7a4_21 : decode cJ6_bitCount_0f7a4 21 = .ok (.iand, 1) := by decide +kernel
theorem dJ6_bitCount_0f7a4_22 : decode cJ6_bitCount_0f7a4 22 = .ok (.iadd, 1) := by decide +kernel
theorem dJ6_bitCount_0f7a4_23 : decode cJ6_bitCount_0f7a4 23 = .ok (.istore_n 0, 1) := by decide +kernel
theorem dJ6_bitCount_0f7a4_24 : decode cJ6_bitCount_0f7a4 24 = .ok (.iload_n 0, 1) := by decide +kernel
theorem dJ6_bitCount_0f7a4_25 : decode cJ6_bitCount_0f7a4 25 = .ok (.iload_n 0, 1) := by decide +kernel
theorem dJ6_bitCount_0f7a4_26 : decode cJ6_bitCount_0f7a4 26 = .ok (.iconst 4, 1) := by decide +kernel
theorem dJ6_bitCount_0f7a4_27 : decode cJ6_bitCount_0f7a4 27 = .ok (.iushr, 1) := by decide +kernel
theorem dJ6_bitCount_0f7a4_28 : decode cJ6_bitCount_0f7a4 28 = .ok (.iadd, 1) := by decide +kernel
theorem dJ6_bitCount_0f7a4_29 : decode cJ6_bitCount_0f7a4 29 = .ok (.ldc_w 267, 3) := by decide +kernel
theorem dJ6_bitCount_0f7a4_32 : decode cJ6_bitCount_0f7a4 32 = .ok (.iand, 1) := by decide +kernel
theorem dJ6_bitCount_0f7a4_33 : decode cJ6_bitCount_0f7a4 33 = .ok (.istore_n 0, 1) := by decide +kernel
theorem dJ6_bitCount_0f7a4_34 : decode cJ6_bitCount_0f7a4 34 = .ok (.iload_n 0, 1) := by decide +kernel
theorem dJ6_bitCount_0f7a4_35 : decode cJ6_bitCount_0f7a4 35 = .ok (.iload_n 0, 1) := by decide +kernel
theorem dJ6_bitCount_0f7a4_36 : decode cJ6_bitCount_0f7a4 36 = .ok (.bipush 8, 2) := by decide +kernel
theorem dJ6_bitCount_0f7a4_38 : decode cJ6_bitCount_0f7a4 38 = .ok (.iushr, 1) := by decide +kernel
theorem dJ6_bitCount_0f7a4_39 : decode cJ6_bitCount_0f7a4 39 = .ok (.iadd, 1) := by decide +kernel
theorem dJ6_bitCount_0f7a4_40 : decode cJ6_bitCount_0f7a4 40 = .ok (.istore_n 0, 1) := by decide +kernel
theorem dJ6_bitCount_0f7a4_41 : decode cJ6_bitCount_0f7a4 41 = .ok (.iload_n 0, 1) := by decide +kernel
theorem dJ6_bitCount_0f7a4_42 : decode cJ6_bitCount_0f7a4 42 = .ok (.iload_n 0, 1) := by decide +kernel
theorem dJ6_bitCount_0f7a4_43 : decode cJ6_bitCount_0f7a4 43 = .ok (.bipush 16, 2) := by decide +kernel
theorem dJ6_bitCount_0f7a4_45 : decode cJ6_bitCount_0f7a4 45 = .ok (.iushr, 1) := by decide +kernel
theorem dJ6_bitCount_0f7a4_46 : decode cJ6_bitCount_0f7a4 46 = .ok (.iadd, 1) := by decide +kernel
theorem dJ6_bitCount_0f7a4_47 : decode cJ6_bitCount_0f7a4 47 = .ok (.istore_n 0, 1) := by decide +kernel
theorem dJ6_bitCount_0f7a4_48 : decode cJ6_bitCount_0f7a4 48 = .ok (.iload_n 0, 1) := by decide +kernel
theorem dJ6_bitCount_0f7a4_49 : decode cJ6_bitCount_0f7a4 49 = .ok (.bipush 63, 2) := by decide +kernel
theorem dJ6_bitCount_0f7a4_51 : decode cJ6_bitCount_0f7a4 51 = .ok (.iand, 1) := by decide +kernel
theorem dJ6_bitCount_0f7a4_52 : decode cJ6_bitCount_0f7a4 52 = .ok (.ireturn, 1) := by decide +kernel
theorem dJ9_max_7cf53_0 : decode cJ9_max_7cf53 0 = .ok (.iload_n 0, 1) := by decide +kernel
theorem dJ9_max_7cf53_1 : decode cJ9_max_7cf53 1 = .ok (.iload_n 1, 1) := by decide +kernel
theorem dJ9_max_7cf53_2 : decode cJ9_max_7cf53 2 = .ok (.if_icmp .lt 7, 3) := by decide +kernel
theorem dJ9_max_7cf53_5 : decode cJ9_max_7cf53 5 = .ok (.iload_n 0, 1) := by decide +kernel
theorem dJ9_max_7cf53_6 : decode cJ9_max_7cf53 6 = .ok (.goto 4, 3) := by decide +kernel
theorem dJ9_max_7cf53_9 : decode cJ9_max_7cf53 9 = .ok (.iload_n 1, 1) := by decide +kernel
theorem dJ9_max_7cf53_10 : decode cJ9_max_7cf53 10 = .ok (.ireturn, 1) := by decide +kernel
theorem dJ9_min_7cf53_0 : decode cJ9_min_7cf53 0 = .ok (.iload_n 0, 1) := by decide +kernel
theorem dJ9_min_7cf53_1 : decode cJ9_min_7cf53 1 = .ok (.iload_n 1, 1) := by decide +kernel
theorem dJ9_min_7cf53_2 : decode cJ9_min_7cf53 2 = .ok (.if_icmp .gt 7, 3) := by decide +kernel
theorem dJ9_min_7cf53_5 : decode cJ9_min_7cf53 5 = .ok (.iload_n 0, 1) := by decide +kernel
theorem dJ9_min_7cf53_6 : decode cJ9_min_7cf53 6 = .ok (.goto 4, 3) := by decide +kernel
theorem dJ9_min_7cf53_9 : decode cJ9_min_7cf53 9 = .ok (.iload_n 1, 1) := by decide +kernel
theorem dJ9_min_7cf53_10 : decode cJ9_min_7cf53 10 = .ok (.ireturn, 1) := by decide +kernel
theorem dL_law_0 : decode cL_law 0 = .ok (.new 7, 3) := by decide +kernel
theorem dL_law_3 : decode cL_law 3 = .ok (.dup, 1) := by decide +kernel
theorem dL_law_4 : decode cL_law 4 = .ok (.invokespecial 9, 3) := by decide +kernel
theorem dL_law_7 : decode cL_law 7 = .ok (.astore_n 1, 1) := by decide +kernel
theorem dL_law_8 : decode cL_law 8 = .ok (.new 10, 3) := by decide +kernel
theorem dL_law_11 : decode cL_law 11 = .ok (.dup, 1) := by decide +kernel
theorem dL_law_12 : decode cL_law 12 = .ok (.invokespecial 12, 3) := by decide +kernel
theorem dL_law_15 : decode cL_law 15 = .ok (.astore_n 2, 1) := by decide +kernel
theorem dL_law_16 : decode cL_law 16 = .ok (.iconst 0, 1) := by decide +kernel
theorem dL_law_17 : decode cL_law 17 = .ok (.istore_n 3, 1) := by decide +kernel
theorem dL_law_18 : decode cL_law 18 = .ok (.iload_n 3, 1) := by decide +kernel
theorem dL_law_19 : decode cL_law 19 = .ok (.aload_n 0, 1) := by decide +kernel
theorem dL_law_20 : decode cL_law 20 = .ok (.arraylength, 1) := by decide +kernel
theorem dL_law_21 : decode cL_law 21 = .ok (.iconst 4, 1) := by decide +kernel
theorem dL_law_22 : decode cL_law 22 = .ok (.isub, 1) := by decide +kernel
theorem dL_law_23 : decode cL_law 23 = .ok (.if_icmp .gt 1032, 3) := by decide +kernel
theorem dL_law_26 : decode cL_law 26 = .ok (.aload_n 0, 1) := by decide +kernel
theorem dL_law_27 : decode cL_law 27 = .ok (.iload_n 3, 1) := by decide +kernel
theorem dL_law_28 : decode cL_law 28 = .ok (.iaload, 1) := by decide +kernel
theorem dL_law_29 : decode cL_law 29 = .ok (.bipush 63, 2) := by decide +kernel
theorem dL_law_31 : decode cL_law 31 = .ok (.iand, 1) := by decide +kernel
theorem dL_law_32 : decode cL_law 32 = .ok (.tableswitch 1017 0 32 #[148, 171, 184, 217, 260, 293, 336, 349, 362, 385, 418, 441, 474, 497, 520, 543, 556, 589, 632, 665, 708, 721, 734, 777, 820, 853, 876, 899, 922, 935, 968, 981, 994], 148) := by decide +kernel
theorem dL_law_180 : decode cL_law 180 = .ok (.aload_n 1, 1) := by decide +kernel
theorem dL_law_181 : decode cL_law 181 = .ok (.aload_n 0, 1) := by decide +kernel
theorem dL_law_182 : decode cL_law 182 = .ok (.iload_n 3, 1) := by decide +kernel
theorem dL_law_183 : decode cL_law 183 = .ok (.iconst 1, 1) := by decide +kernel
theorem dL_law_184 : decode cL_law 184 = .ok (.iadd, 1) := by decide +kernel
theorem dL_law_185 : decode cL_law 185 = .ok (.iaload, 1) := by decide +kernel
theorem dL_law_186 : decode cL_law 186 = .ok (.invokevirtual 13, 3) := by decide +kernel
theorem dL_law_189 : decode cL_law 189 = .ok (.aload_n 2, 1) := by decide +kernel
theorem dL_law_190 : decode cL_law 190 = .ok (.aload_n 0, 1) := by decide +kernel
theorem dL_law_191 : decode cL_law 191 = .ok (.iload_n 3, 1) := by decide +kernel
theorem dL_law_192 : decode cL_law 192 = .ok (.iconst 1, 1) := by decide +kernel
theorem dL_law_193 : decode cL_law 193 = .ok (.iadd, 1) := by decide +kernel
theorem dL_law_194 : decode cL_law 194 = .ok (.iaload, 1) := by decide +kernel
theorem dL_law_195 : decode cL_law 195 = .ok (.invokevirtual 17, 3) := by decide +kernel
theorem dL_law_198 : decode cL_law 198 = .ok (.if_icmp .eq 851, 3) := by decide +kernel
theorem dL_law_201 : decode cL_law 201 = .ok (.iconst 0, 1) := by decide +kernel
theorem dL_law_202 : decode cL_law 202 = .ok (.ireturn, 1) := by decide +kernel
theorem dL_law_203 : decode cL_law 203 = .ok (.aload_n 1, 1) := by decide +kernel
theorem dL_law_204 : decode cL_law 204 = .ok (.invokevirtual 18, 3) := by decide +kernel
theorem dL_law_207 : decode cL_law 207 = .ok (.aload_n 2, 1) := by decide +kernel
theorem dL_law_208 : decode cL_law 208 = .ok (.invokevirtual 22, 3) := by decide +kernel
theorem dL_law_211 : decode cL_law 211 = .ok (.if_icmp .eq 838, 3) := by decide +kernel
theorem dL_law_214 : decode cL_law 214 = .ok (.iconst 0, 1) := by decide +kernel
theorem dL_law_215 : decode cL_law 215 = .ok (.ireturn, 1) := by decide +kernel
theorem dL_law_216 : decode cL_law 216 = .ok (.aload_n 1, 1) := by decide +kernel
theorem dL_law_217 : decode cL_law 217 = .ok (.aload_n 0, 1) := by decide +kernel
theorem dL_law_218 : decode cL_law 218 = .ok (.iload_n 3, 1) := by decide +kernel
theorem dL_law_219 : decode cL_law 219 = .ok (.iconst 1, 1) := by decide +kernel
theorem dL_law_220 : decode cL_law 220 = .ok (.iadd, 1) := by decide +kernel
theorem dL_law_221 : decode cL_law 221 = .ok (.iaload, 1) := by decide +kernel
theorem dL_law_222 : decode cL_law 222 = .ok (.aload_n 0, 1) := by decide +kernel
theorem dL_law_223 : decode cL_law 223 = .ok (.iload_n 3, 1) := by decide +kernel
theorem dL_law_224 : decode cL_law 224 = .ok (.iconst 2, 1) := by decide +kernel
theorem dL_law_225 : decode cL_law 225 = .ok (.iadd, 1) := by decide +kernel
theorem dL_law_226 : decode cL_law 226 = .ok (.iaload, 1) := by decide +kernel
theorem dL_law_227 : decode cL_law 227 = .ok (.invokevirtual 23, 3) := by decide +kernel
theorem dL_law_230 : decode cL_law 230 = .ok (.aload_n 2, 1) := by decide +kernel
theorem dL_law_231 : decode cL_law 231 = .ok (.aload_n 0, 1) := by decide +kernel
theorem dL_law_232 : decode cL_law 232 = .ok (.iload_n 3, 1) := by decide +kernel
theorem dL_law_233 : decode cL_law 233 = .ok (.iconst 1, 1) := by decide +kernel
theorem dL_law_234 : decode cL_law 234 = .ok (.iadd, 1) := by decide +kernel
theorem dL_law_235 : decode cL_law 235 = .ok (.iaload, 1) := by decide +kernel
theorem dL_law_236 : decode cL_law 236 = .ok (.aload_n 0, 1) := by decide +kernel
theorem dL_law_237 : decode cL_law 237 = .ok (.iload_n 3, 1) := by decide +kernel
theorem dL_law_238 : decode cL_law 238 = .ok (.iconst 2, 1) := by decide +kernel
theorem dL_law_239 : decode cL_law 239 = .ok (.iadd, 1) := by decide +kernel
theorem dL_law_240 : decode cL_law 240 = .ok (.iaload, 1) := by decide +kernel
theorem dL_law_241 : decode cL_law 241 = .ok (.invokevirtual 27, 3) := by decide +kernel
theorem dL_law_244 : decode cL_law 244 = .ok (.if_icmp .eq 805, 3) := by decide +kernel
theorem dL_law_247 : decode cL_law 247 = .ok (.iconst 0, 1) := by decide +kernel
theorem dL_law_248 : decode cL_law 248 = .ok (.ireturn, 1) := by decide +kernel
theorem dL_law_249 : decode cL_law 249 = .ok (.aload_n 1, 1) := by decide +kernel
theorem dL_law_250 : decode cL_law 250 = .ok (.aload_n 0, 1) := by decide +kernel
theorem dL_law_251 : decode cL_law 251 = .ok (.iload_n 3, 1) := by decide +kernel
theorem dL_law_252 : decode cL_law 252 = .ok (.iconst 1, 1) := by decide +kernel
theorem dL_law_253 : decode cL_law 253 = .ok (.iadd, 1) := by decide +kernel
theorem dL_law_254 : decode cL_law 254 = .ok (.iaload, 1) := by decide +kernel
theorem dL_law_255 : decode cL_law 255 = .ok (.aload_n 0, 1) := by decide +kernel
theorem dL_law_256 : decode cL_law 256 = .ok (.iload_n 3, 1) := by decide +kernel
theorem dL_law_257 : decode cL_law 257 = .ok (.iconst 2, 1) := by decide +kernel
theorem dL_law_258 : decode cL_law 258 = .ok (.iadd, 1) := by decide +kernel
theorem dL_law_259 : decode cL_law 259 = .ok (.iaload, 1) := by decide +kernel
theorem dL_law_260 : decode cL_law 260 = .ok (.aload_n 0, 1) := by decide +kernel
theorem dL_law_261 : decode cL_law 261 = .ok (.iload_n 3, 1) := by decide +kernel
theorem dL_law_262 : decode cL_law 262 = .ok (.iconst 3, 1) := by decide +kernel
theorem dL_law_263 : decode cL_law 263 = .ok (.iadd, 1) := by decide +kernel
theorem dL_law_264 : decode cL_law 264 = .ok (.iaload, 1) := by decide +kernel
theorem dL_law_265 : decode cL_law 265 = .ok (.invokevirtual 28, 3) := by decide +kernel
theorem dL_law_268 : decode cL_law 268 = .ok (.aload_n 2, 1) := by decide +kernel
theorem dL_law_269 : decode cL_law 269 = .ok (.aload_n 0, 1) := by decide +kernel
theorem dL_law_270 : decode cL_law 270 = .ok (.iload_n 3, 1) := by decide +kernel
theorem dL_law_271 : decode cL_law 271 = .ok (.iconst 1, 1) := by decide +kernel
theorem dL_law_272 : decode cL_law 272 = .ok (.iadd, 1) := by decide +kernel
theorem dL_law_273 : decode cL_law 273 = .ok (.iaload, 1) := by decide +kernel
theorem dL_law_274 : decode cL_law 274 = .ok (.aload_n 0, 1) := by decide +kernel
theorem dL_law_275 : decode cL_law 275 = .ok (.iload_n 3, 1) := by decide +kernel
theorem dL_law_276 : decode cL_law 276 = .ok (.iconst 2, 1) := by decide +kernel
theorem dL_law_277 : decode cL_law 277 = .ok (.iadd, 1) := by decide +kernel
theorem dL_law_278 : decode cL_law 278 = .ok (.iaload, 1) := by decide +kernel
theorem dL_law_279 : decode cL_law 279 = .ok (.aload_n 0, 1) := by decide +kernel
theorem dL_law_280 : decode cL_law 280 = .ok (.iload_n 3, 1) := by decide +kernel
theorem dL_law_281 : decode cL_law 281 = .ok (.iconst 3, 1) := by decide +kernel
theorem dL_law_282 : decode cL_law 282 = .ok (.iadd, 1) := by decide +kernel
theorem dL_law_283 : decode cL_law 283 = .ok (.iaload, 1) := by decide +kernel
theorem dL_law_284 : decode cL_law 284 = .ok (.invokevirtual 32, 3) := by decide +kernel
theorem dL_law_287 : decode cL_law 287 = .ok (.if_icmp .eq 762, 3) := by decide +kernel
theorem dL_law_290 : decode cL_law 290 = .ok (.iconst 0, 1) := by decide +kernel
theorem dL_law_291 : decode cL_law 291 = .ok (.ireturn, 1) := by decide +kernel
theorem dL_law_292 : decode cL_law 292 = .ok (.aload_n 1, 1) := by decide +kernel
theorem dL_law_293 : decode cL_law 293 = .ok (.aload_n 0, 1) := by decide +kernel
theorem dL_law_294 : decode cL_law 294 = .ok (.iload_n 3, 1) := by decide +kernel
theorem dL_law_295 : decode cL_law 295 = .ok (.iconst 1, 1) := by decide +kernel
theorem dL_law_296 : decode cL_law 296 = .ok (.iadd, 1) := by decide +kernel
theorem dL_law_297 : decode cL_law 297 = .ok (.iaload, 1) := by decide +kernel
theorem dL_law_298 : decode cL_law 298 = .ok (.aload_n 0, 1) := by decide +kernel
theorem dL_law_299 : decode cL_law 299 = .ok (.iload_n 3, 1) := by decide +kernel
theorem dL_law_300 : decode cL_law 300 = .ok (.iconst 2, 1) := by decide +kernel
theorem dL_law_301 : decode cL_law 301 = .ok (.iadd, 1) := by decide +kernel
theorem dL_law_302 : decode cL_law 302 = .ok (.iaload, 1) := by decide +kernel
theorem dL_law_303 : decode cL_law 303 = .ok (.invokevirtual 33, 3) := by decide +kernel
theorem dL_law_306 : decode cL_law 306 = .ok (.aload_n 2, 1) := by decide +kernel
theorem dL_law_307 : decode cL_law 307 = .ok (.aload_n 0, 1) := by decide +kernel
theorem dL_law_308 : decode cL_law 308 = .ok (.iload_n 3, 1) := by decide +kernel
theorem dL_law_309 : decode cL_law 309 = .ok (.iconst 1, 1) := by decide +kernel
theorem dL_law_310 : decode cL_law 310 = .ok (.iadd, 1) := by decide +kernel
theorem dL_law_311 : decode cL_law 311 = .ok (.iaload, 1) := by decide +kernel
theorem dL_law_312 : decode cL_law 312 = .ok (.aload_n 0, 1) := by decide +kernel
theorem dL_law_313 : decode cL_law 313 = .ok (.iload_n 3, 1) := by decide +kernel
theorem dL_law_314 : decode cL_law 314 = .ok (.iconst 2, 1) := by decide +kernel
theorem dL_law_315 : decode cL_law 315 = .ok (.iadd, 1) := by decide +kernel
theorem dL_law_316 : decode cL_law 316 = .ok (.iaload, 1) := by decide +kernel
theorem dL_law_317 : decode cL_law 317 = .ok (.invokevirtual 36, 3) := by decide +kernel
theorem dL_law_320 : decode cL_law 320 = .ok (.if_icmp .eq 729, 3) := by decide +kernel
theorem dL_law_323 : decode cL_law 323 = .ok (.iconst 0, 1) := by decide +kernel
theorem dL_law_324 : decode cL_law 324 = .ok (.ireturn, 1) := by decide +kernel
theorem dL_law_325 : decode cL_law 325 = .ok (.aload_n 1, 1) := by decide +kernel
theorem dL_law_326 : decode cL_law 326 = .ok (.aload_n 0, 1) := by decide +kernel
theorem dL_law_327 : decode cL_law 327 = .ok (.iload_n 3, 1) := by decide +kernel
theorem dL_law_328 : decode cL_law 328 = .ok (.iconst 1, 1) := by decide +kernel
theorem dL_law_329 : decode cL_law 329 = .ok (.iadd, 1) := by decide +kernel
theorem dL_law_330 : decode cL_law 330 = .ok (.iaload, 1) := by decide +kernel
theorem dL_law_331 : decode cL_law 331 = .ok (.aload_n 0, 1) := by decide +kernel
theorem dL_law_332 : decode cL_law 332 = .ok (.iload_n 3, 1) := by decide +kernel
theorem dL_law_333 : decode cL_law 333 = .ok (.iconst 2, 1) := by decide +kernel
theorem dL_law_334 : decode cL_law 334 = .ok (.iadd, 1) := by decide +kernel
theorem dL_law_335 : decode cL_law 335 = .ok (.iaload, 1) := by decide +kernel
theorem dL_law_336 : decode cL_law 336 = .ok (.aload_n 0, 1) := by decide +kernel
theorem dL_law_337 : decode cL_law 337 = .ok (.iload_n 3, 1) := by decide +kernel
theorem dL_law_338 : decode cL_law 338 = .ok (.iconst 3, 1) := by decide +kernel
theorem dL_law_339 : decode cL_law 339 = .ok (.iadd, 1) := by decide +kernel
theorem dL_law_340 : decode cL_law 340 = .ok (.iaload, 1) := by decide +kernel
theorem dL_law_341 : decode cL_law 341 = .ok (.invokevirtual 37, 3) := by decide +kernel
theorem dL_law_344 : decode cL_law 344 = .ok (.aload_n 2, 1) := by decide +kernel
theorem dL_law_345 : decode cL_law 345 = .ok (.aload_n 0, 1) := by decide +kernel
theorem dL_law_346 : decode cL_law 346 = .ok (.iload_n 3, 1) := by decide +kernel
theorem dL_law_347 : decode cL_law 347 = .ok (.iconst 1, 1) := by decide +kernel
theorem dL_law_348 : decode cL_law 348 = .ok (.iadd, 1) := by decide +kernel
theorem dL_law_349 : decode cL_law 349 = .ok (.iaload, 1) := by decide +kernel
theorem dL_law_350 : decode cL_law 350 = .ok (.aload_n 0, 1) := by decide +kernel
theorem dL_law_351 : decode cL_law 351 = .ok (.iload_n 3, 1) := by decide +kernel
theorem dL_law_352 : decode cL_law 352 = .ok (.iconst 2, 1) := by decide +kernel
theorem dL_law_353 : decode cL_law 353 = .ok (.iadd, 1) := by decide +kernel
theorem dL_law_354 : decode cL_law 354 = .ok (.iaload, 1) := by decide +kernel
theorem dL_law_355 : decode cL_law 355 = .ok (.aload_n 0, 1) := by decide +kernel
theorem dL_law_356 : decode cL_law 356 = .ok (.iload_n 3, 1) := by decide +kernel
theorem dL_law_357 : decode cL_law 357 = .ok (.iconst 3, 1) := by decide +kernel
theorem dL_law_358 : decode cL_law 358 = .ok (.iadd, 1) := by decide +kernel
theorem dL_law_359 : decode cL_law 359 = .ok (.iaload, 1) := by decide +kernel
theorem dL_law_360 : decode cL_law 360 = .ok (.invokevirtual 40, 3) := by decide +kernel
theorem dL_law_363 : decode cL_law 363 = .ok (.if_icmp .eq 686, 3) := by decide +kernel
theorem dL_law_366 : decode cL_law 366 = .ok (.iconst 0, 1) := by decide +kernel
theorem dL_law_367 : decode cL_law 367 = .ok (.ireturn, 1) := by decide +kernel
theorem dL_law_368 : decode cL_law 368 = .ok (.aload_n 1, 1) := by decide +kernel
theorem dL_law_369 : decode cL_law 369 = .ok (.invokevirtual 41, 3) := by decide +kernel
theorem dL_law_372 : decode cL_law 372 = .ok (.aload_n 2, 1) := by decide +kernel
theorem dL_law_373 : decode cL_law 373 = .ok (.invokevirtual 44, 3) := by decide +kernel
theorem dL_law_376 : decode cL_law 376 = .ok (.if_icmp .eq 673, 3) := by decide +kernel
theorem dL_law_379 : decode cL_law 379 = .ok (.iconst 0, 1) := by decide +kernel
theorem dL_law_380 : decode cL_law 380 = .ok (.ireturn, 1) := by decide +kernel
theorem dL_law_381 : decode cL_law 381 = .ok (.aload_n 1, 1) := by decide +kernel
theorem dL_law_382 : decode cL_law 382 = .ok (.invokevirtual 45, 3) := by decide +kernel
theorem dL_law_385 : decode cL_law 385 = .ok (.aload_n 2, 1) := by decide +kernel
theorem dL_law_386 : decode cL_law 386 = .ok (.invokevirtual 48, 3) := by decide +kernel
theorem dL_law_389 : decode cL_law 389 = .ok (.if_icmp .eq 660, 3) := by decide +kernel
theorem dL_law_392 : decode cL_law 392 = .ok (.iconst 0, 1) := by decide +kernel
theorem dL_law_393 : decode cL_law 393 = .ok (.ireturn, 1) := by decide +kernel
theorem dL_law_394 : decode cL_law 394 = .ok (.aload_n 1, 1) := by decide +kernel
theorem dL_law_395 : decode cL_law 395 = .ok (.aload_n 0, 1) := by decide +kernel
theorem dL_law_396 : decode cL_law 396 = .ok (.iload_n 3, 1) := by decide +kernel
theorem dL_law_397 : decode cL_law 397 = .ok (.iconst 1, 1) := by decide +kernel
theorem dL_law_398 : decode cL_law 398 = .ok (.iadd, 1) := by decide +kernel
theorem dL_law_399 : decode cL_law 399 = .ok (.iaload, 1) := by decide +kernel
theorem dL_law_400 : decode cL_law 400 = .ok (.invokevirtual 49, 3) := by decide +kernel
theorem dL_law_403 : decode cL_law 403 = .ok (.aload_n 2, 1) := by decide +kernel
theorem dL_law_404 : decode cL_law 404 = .ok (.aload_n 0, 1) := by decide +kernel
theorem dL_law_405 : decode cL_law 405 = .ok (.iload_n 3, 1) := by decide +kernel
theorem dL_law_406 : decode cL_law 406 = .ok (.iconst 1, 1) := by decide +kernel
theorem dL_law_407 : decode cL_law 407 = .ok (.iadd, 1) := by decide +kernel
theorem dL_law_408 : decode cL_law 408 = .ok (.iaload, 1) := by decide +kernel
theorem dL_law_409 : decode cL_law 409 = .ok (.invokevirtual 52, 3) := by decide +kernel
theorem dL_law_412 : decode cL_law 412 = .ok (.if_icmp .eq 637, 3) := by decide +kernel
theorem dL_law_415 : decode cL_law 415 = .ok (.iconst 0, 1) := by decide +kernel
theorem dL_law_416 : decode cL_law 416 = .ok (.ireturn, 1) := by decide +kernel
theorem dL_law_417 : decode cL_law 417 = .ok (.aload_n 1, 1) := by decide +kernel
theorem dL_law_418 : decode cL_law 418 = .ok (.aload_n 0, 1) := by decide +kernel
theorem dL_law_419 : decode cL_law 419 = .ok (.iload_n 3, 1) := by decide +kernel
theorem dL_law_420 : decode cL_law 420 = .ok (.iconst 1, 1) := by decide +kernel
theorem dL_law_421 : decode cL_law 421 = .ok (.iadd, 1) := by decide +kernel
theorem dL_law_422 : decode cL_law 422 = .ok (.iaload, 1) := by decide +kernel
theorem dL_law_423 : decode cL_law 423 = .ok (.aload_n 0, 1) := by decide +kernel
theorem dL_law_424 : decode cL_law 424 = .ok (.iload_n 3, 1) := by decide +kernel
theorem dL_law_425 : decode cL_law 425 = .ok (.iconst 2, 1) := by decide +kernel
theorem dL_law_426 : decode cL_law 426 = .ok (.iadd, 1) := by decide +kernel
theorem dL_law_427 : decode cL_law 427 = .ok (.iaload, 1) := by decide +kernel
theorem dL_law_428 : decode cL_law 428 = .ok (.invokevirtual 53, 3) := by decide +kernel
theorem dL_law_431 : decode cL_law 431 = .ok (.aload_n 2, 1) := by decide +kernel
theorem dL_law_432 : decode cL_law 432 = .ok (.aload_n 0, 1) := by decide +kernel
theorem dL_law_433 : decode cL_law 433 = .ok (.iload_n 3, 1) := by decide +kernel
theorem dL_law_434 : decode cL_law 434 = .ok (.iconst 1, 1) := by decide +kernel
theorem dL_law_435 : decode cL_law 435 = .ok (.iadd, 1) := by decide +kernel
theorem dL_law_436 : decode cL_law 436 = .ok (.iaload, 1) := by decide +kernel
theorem dL_law_437 : decode cL_law 437 = .ok (.aload_n 0, 1) := by decide +kernel
theorem dL_law_438 : decode cL_law 438 = .ok (.iload_n 3, 1) := by decide +kernel
theorem dL_law_439 : decode cL_law 439 = .ok (.iconst 2, 1) := by decide +kernel
theorem dL_law_440 : decode cL_law 440 = .ok (.iadd, 1) := by decide +kernel
theorem dL_law_441 : decode cL_law 441 = .ok (.iaload, 1) := by decide +kernel
theorem dL_law_442 : decode cL_law 442 = .ok (.invokevirtual 56, 3) := by decide +kernel
theorem dL_law_445 : decode cL_law 445 = .ok (.if_icmp .eq 604, 3) := by decide +kernel
theorem dL_law_448 : decode cL_law 448 = .ok (.iconst 0, 1) := by decide +kernel
theorem dL_law_449 : decode cL_law 449 = .ok (.ireturn, 1) := by decide +kernel
theorem dL_law_450 : decode cL_law 450 = .ok (.aload_n 1, 1) := by decide +kernel
theorem dL_law_451 : decode cL_law 451 = .ok (.aload_n 0, 1) := by decide +kernel
theorem dL_law_452 : decode cL_law 452 = .ok (.iload_n 3, 1) := by decide +kernel
theorem dL_law_453 : decode cL_law 453 = .ok (.iconst 1, 1) := by decide +kernel
theorem dL_law_454 : decode cL_law 454 = .ok (.iadd, 1) := by decide +kernel
theorem dL_law_455 : decode cL_law 455 = .ok (.iaload, 1) := by decide +kernel
theorem dL_law_456 : decode cL_law 456 = .ok (.invokevirtual 57, 3) := by decide +kernel
theorem dL_law_459 : decode cL_law 459 = .ok (.aload_n 2, 1) := by decide +kernel
theorem dL_law_460 : decode cL_law 460 = .ok (.aload_n 0, 1) := by decide +kernel
theorem dL_law_461 : decode cL_law 461 = .ok (.iload_n 3, 1) := by decide +kernel
theorem dL_law_462 : decode cL_law 462 = .ok (.iconst 1, 1) := by decide +kernel
theorem dL_law_463 : decode cL_law 463 = .ok (.iadd, 1) := by decide +kernel
theorem dL_law_464 : decode cL_law 464 = .ok (.iaload, 1) := by decide +kernel
theorem dL_law_465 : decode cL_law 465 = .ok (.invokevirtual 60, 3) := by decide +kernel
theorem dL_law_468 : decode cL_law 468 = .ok (.if_icmp .eq 581, 3) := by decide +kernel
theorem dL_law_471 : decode cL_law 471 = .ok (.iconst 0, 1) := by decide +kernel
theorem dL_law_472 : decode cL_law 472 = .ok (.ireturn, 1) := by decide +kernel
theorem dL_law_473 : decode cL_law 473 = .ok (.aload_n 1, 1) := by decide +kernel
theorem dL_law_474 : decode cL_law 474 = .ok (.aload_n 0, 1) := by decide +kernel
theorem dL_law_475 : decode cL_law 475 = .ok (.iload_n 3, 1) := by decide +kernel
theorem dL_law_476 : decode cL_law 476 = .ok (.iconst 1, 1) := by decide +kernel
theorem dL_law_477 : decode cL_law 477 = .ok (.iadd, 1) := by decide +kernel
theorem dL_law_478 : decode cL_law 478 = .ok (.iaload, 1) := by decide +kernel
theorem dL_law_479 : decode cL_law 479 = .ok (.aload_n 0, 1) := by decide +kernel
theorem dL_law_480 : decode cL_law 480 = .ok (.iload_n 3, 1) := by decide +kernel
theorem dL_law_481 : decode cL_law 481 = .ok (.iconst 2, 1) := by decide +kernel
theorem dL_law_482 : decode cL_law 482 = .ok (.iadd, 1) := by decide +kernel
theorem dL_law_483 : decode cL_law 483 = .ok (.iaload, 1) := by decide +kernel
theorem dL_law_484 : decode cL_law 484 = .ok (.invokevirtual 61, 3) := by decide +kernel
theorem dL_law_487 : decode cL_law 487 = .ok (.aload_n 2, 1) := by decide +kernel
theorem dL_law_488 : decode cL_law 488 = .ok (.aload_n 0, 1) := by decide +kernel
theorem dL_law_489 : decode cL_law 489 = .ok (.iload_n 3, 1) := by decide +kernel
theorem dL_law_490 : decode cL_law 490 = .ok (.iconst 1, 1) := by decide +kernel
theorem dL_law_491 : decode cL_law 491 = .ok (.iadd, 1) := by decide +kernel
theorem dL_law_492 : decode cL_law 492 = .ok (.iaload, 1) := by decide +kernel
theorem dL_law_493 : decode cL_law 493 = .ok (.aload_n 0, 1) := by decide +kernel
theorem dL_law_494 : decode cL_law 494 = .ok (.iload_n 3, 1) := by decide +kernel
theorem dL_law_495 : decode cL_law 495 = .ok (.iconst 2, 1) := by decide +kernel
theorem dL_law_496 : decode cL_law 496 = .ok (.iadd, 1) := by decide +kernel
theorem dL_law_497 : decode cL_law 497 = .ok (.iaload, 1) := by decide +kernel
theorem dL_law_498 : decode cL_law 498 = .ok (.invokevirtual 64, 3) := by decide +kernel
theorem dL_law_501 : decode cL_law 501 = .ok (.if_icmp .eq 548, 3) := by decide +kernel
theorem dL_law_504 : decode cL_law 504 = .ok (.iconst 0, 1) := by decide +kernel
theorem dL_law_505 : decode cL_law 505 = .ok (.ireturn, 1) := by decide +kernel
theorem dL_law_506 : decode cL_law 506 = .ok (.aload_n 1, 1) := by decide +kernel
theorem dL_law_507 : decode cL_law 507 = .ok (.aload_n 0, 1) := by decide +kernel
theorem dL_law_508 : decode cL_law 508 = .ok (.iload_n 3, 1) := by decide +kernel
theorem dL_law_509 : decode cL_law 509 = .ok (.iconst 1, 1) := by decide +kernel
theorem dL_law_510 : decode cL_law 510 = .ok (.iadd, 1) := by decide +kernel
theorem dL_law_511 : decode cL_law 511 = .ok (.iaload, 1) := by decide +kernel
theorem dL_law_512 : decode cL_law 512 = .ok (.invokevirtual 65, 3) := by decide +kernel
theorem dL_law_515 : decode cL_law 515 = .ok (.aload_n 2, 1) := by decide +kernel
theorem dL_law_516 : decode cL_law 516 = .ok (.aload_n 0, 1) := by decide +kernel
theorem dL_law_517 : decode cL_law 517 = .ok (.iload_n 3, 1) := by decide +kernel
theorem dL_law_518 : decode cL_law 518 = .ok (.iconst 1, 1) := by decide +kernel
theorem dL_law_519 : decode cL_law 519 = .ok (.iadd, 1) := by decide +kernel
theorem dL_law_520 : decode cL_law 520 = .ok (.iaload, 1) := by decide +kernel
theorem dL_law_521 : decode cL_law 521 = .ok (.invokevirtual 68, 3) := by decide +kernel
theorem dL_law_524 : decode cL_law 524 = .ok (.if_icmp .eq 525, 3) := by decide +kernel
theorem dL_law_527 : decode cL_law 527 = .ok (.iconst 0, 1) := by decide +kernel
theorem dL_law_528 : decode cL_law 528 = .ok (.ireturn, 1) := by decide +kernel
theorem dL_law_529 : decode cL_law 529 = .ok (.aload_n 1, 1) := by decide +kernel
theorem dL_law_530 : decode cL_law 530 = .ok (.aload_n 0, 1) := by decide +kernel
theorem dL_law_531 : decode cL_law 531 = .ok (.iload_n 3, 1) := by decide +kernel
theorem dL_law_532 : decode cL_law 532 = .ok (.iconst 1, 1) := by decide +kernel
theorem dL_law_533 : decode cL_law 533 = .ok (.iadd, 1) := by decide +kernel
theorem dL_law_534 : decode cL_law 534 = .ok (.iaload, 1) := by decide +kernel
theorem dL_law_535 : decode cL_law 535 = .ok (.invokevirtual 69, 3) := by decide +kernel
theorem dL_law_538 : decode cL_law 538 = .ok (.aload_n 2, 1) := by decide +kernel
theorem dL_law_539 : decode cL_law 539 = .ok (.aload_n 0, 1) := by decide +kernel
theorem dL_law_540 : decode cL_law 540 = .ok (.iload_n 3, 1) := by decide +kernel
theorem dL_law_541 : decode cL_law 541 = .ok (.iconst 1, 1) := by decide +kernel
theorem dL_law_542 : decode cL_law 542 = .ok (.iadd, 1) := by decide +kernel
theorem dL_law_543 : decode cL_law 543 = .ok (.iaload, 1) := by decide +kernel
theorem dL_law_544 : decode cL_law 544 = .ok (.invokevirtual 72, 3) := by decide +kernel
theorem dL_law_547 : decode cL_law 547 = .ok (.if_icmp .eq 502, 3) := by decide +kernel
theorem dL_law_550 : decode cL_law 550 = .ok (.iconst 0, 1) := by decide +kernel
theorem dL_law_551 : decode cL_law 551 = .ok (.ireturn, 1) := by decide +kernel
theorem dL_law_552 : decode cL_law 552 = .ok (.aload_n 1, 1) := by decide +kernel
theorem dL_law_553 : decode cL_law 553 = .ok (.aload_n 0, 1) := by decide +kernel
theorem dL_law_554 : decode cL_law 554 = .ok (.iload_n 3, 1) := by decide +kernel
theorem dL_law_555 : decode cL_law 555 = .ok (.iconst 1, 1) := by decide +kernel
theorem dL_law_556 : decode cL_law 556 = .ok (.iadd, 1) := by decide +kernel
theorem dL_law_557 : decode cL_law 557 = .ok (.iaload, 1) := by decide +kernel
theorem dL_law_558 : decode cL_law 558 = .ok (.invokevirtual 73, 3) := by decide +kernel
theorem dL_law_561 : decode cL_law 561 = .ok (.aload_n 2, 1) := by decide +kernel
theorem dL_law_562 : decode cL_law 562 = .ok (.aload_n 0, 1) := by decide +kernel
theorem dL_law_563 : decode cL_law 563 = .ok (.iload_n 3, 1) := by decide +kernel
theorem dL_law_564 : decode cL_law 564 = .ok (.iconst 1, 1) := by decide +kernel
theorem dL_law_565 : decode cL_law 565 = .ok (.iadd, 1) := by decide +kernel
theorem dL_law_566 : decode cL_law 566 = .ok (.iaload, 1) := by decide +kernel
theorem dL_law_567 : decode cL_law 567 = .ok (.invokevirtual 76, 3) := by decide +kernel
theorem dL_law_570 : decode cL_law 570 = .ok (.if_icmp .eq 479, 3) := by decide +kernel
theorem dL_law_573 : decode cL_law 573 = .ok (.iconst 0, 1) := by decide +kernel
theorem dL_law_574 : decode cL_law 574 = .ok (.ireturn, 1) := by decide +kernel
theorem dL_law_575 : decode cL_law 575 = .ok (.aload_n 1, 1) := by decide +kernel
theorem dL_law_576 : decode cL_law 576 = .ok (.invokevirtual 77, 3) := by decide +kernel
theorem dL_law_579 : decode cL_law 579 = .ok (.aload_n 2, 1) := by decide +kernel
theorem dL_law_580 : decode cL_law 580 = .ok (.invokevirtual 80, 3) := by decide +kernel
theorem dL_law_583 : decode cL_law 583 = .ok (.if_icmp .eq 466, 3) := by decide +kernel
theorem dL_law_586 : decode cL_law 586 = .ok (.iconst 0, 1) := by decide +kernel
theorem dL_law_587 : decode cL_law 587 = .ok (.ireturn, 1) := by decide +kernel
theorem dL_law_588 : decode cL_law 588 = .ok (.aload_n 1, 1) := by decide +kernel
theorem dL_law_589 : decode cL_law 589 = .ok (.aload_n 0, 1) := by decide +kernel
theorem dL_law_590 : decode cL_law 590 = .ok (.iload_n 3, 1) := by decide +kernel
theorem dL_law_591 : decode cL_law 591 = .ok (.iconst 1, 1) := by decide +kernel
theorem dL_law_592 : decode cL_law 592 = .ok (.iadd, 1) := by decide +kernel
theorem dL_law_593 : decode cL_law 593 = .ok (.iaload, 1) := by decide +kernel
theorem dL_law_594 : decode cL_law 594 = .ok (.aload_n 0, 1) := by decide +kernel
theorem dL_law_595 : decode cL_law 595 = .ok (.iload_n 3, 1) := by decide +kernel
theorem dL_law_596 : decode cL_law 596 = .ok (.iconst 2, 1) := by decide +kernel
theorem dL_law_597 : decode cL_law 597 = .ok (.iadd, 1) := by decide +kernel
theorem dL_law_598 : decode cL_law 598 = .ok (.iaload, 1) := by decide +kernel
theorem dL_law_599 : decode cL_law 599 = .ok (.invokevirtual 81, 3) := by decide +kernel
theorem dL_law_602 : decode cL_law 602 = .ok (.aload_n 2, 1) := by decide +kernel
theorem dL_law_603 : decode cL_law 603 = .ok (.aload_n 0, 1) := by decide +kernel
theorem dL_law_604 : decode cL_law 604 = .ok (.iload_n 3, 1) := by decide +kernel
theorem dL_law_605 : decode cL_law 605 = .ok (.iconst 1, 1) := by decide +kernel
theorem dL_law_606 : decode cL_law 606 = .ok (.iadd, 1) := by decide +kernel
theorem dL_law_607 : decode cL_law 607 = .ok (.iaload, 1) := by decide +kernel
theorem dL_law_608 : decode cL_law 608 = .ok (.aload_n 0, 1) := by decide +kernel
theorem dL_law_609 : decode cL_law 609 = .ok (.iload_n 3, 1) := by decide +kernel
theorem dL_law_610 : decode cL_law 610 = .ok (.iconst 2, 1) := by decide +kernel
theorem dL_law_611 : decode cL_law 611 = .ok (.iadd, 1) := by decide +kernel
theorem dL_law_612 : decode cL_law 612 = .ok (.iaload, 1) := by decide +kernel
theorem dL_law_613 : decode cL_law 613 = .ok (.invokevirtual 84, 3) := by decide +kernel
theorem dL_law_616 : decode cL_law 616 = .ok (.if_icmp .eq 433, 3) := by decide +kernel
theorem dL_law_619 : decode cL_law 619 = .ok (.iconst 0, 1) := by decide +kernel
theorem dL_law_620 : decode cL_law 620 = .ok (.ireturn, 1) := by decide +kernel
theorem dL_law_621 : decode cL_law 621 = .ok (.aload_n 1, 1) := by decide +kernel
theorem dL_law_622 : decode cL_law 622 = .ok (.aload_n 0, 1) := by decide +kernel
theorem dL_law_623 : decode cL_law 623 = .ok (.iload_n 3, 1) := by decide +kernel
theorem dL_law_624 : decode cL_law 624 = .ok (.iconst 1, 1) := by decide +kernel
theorem dL_law_625 : decode cL_law 625 = .ok (.iadd, 1) := by decide +kernel
theorem dL_law_626 : decode cL_law 626 = .ok (.iaload, 1) := by decide +kernel
theorem dL_law_627 : decode cL_law 627 = .ok (.aload_n 0, 1) := by decide +kernel
theorem dL_law_628 : decode cL_law 628 = .ok (.iload_n 3, 1) := by decide +kernel
theorem dL_law_629 : decode cL_law 629 = .ok (.iconst 2, 1) := by decide +kernel
theorem dL_law_630 : decode cL_law 630 = .ok (.iadd, 1) := by decide +kernel
theorem dL_law_631 : decode cL_law 631 = .ok (.iaload, 1) := by decide +kernel
theorem dL_law_632 : decode cL_law 632 = .ok (.aload_n 0, 1) := by decide +kernel
theorem dL_law_633 : decode cL_law 633 = .ok (.iload_n 3, 1) := by decide +kernel
theorem dL_law_634 : decode cL_law 634 = .ok (.iconst 3, 1) := by decide +kernel
theorem dL_law_635 : decode cL_law 635 = .ok (.iadd, 1) := by decide +kernel
theorem dL_law_636 : decode cL_law 636 = .ok (.iaload, 1) := by decide +kernel
theorem dL_law_637 : decode cL_law 637 = .ok (.invokevirtual 85, 3) := by decide +kernel
theorem dL_law_640 : decode cL_law 640 = .ok (.aload_n 2, 1) := by decide +kernel
theorem dL_law_641 : decode cL_law 641 = .ok (.aload_n 0, 1) := by decide +kernel
theorem dL_law_642 : decode cL_law 642 = .ok (.iload_n 3, 1) := by decide +kernel
theorem dL_law_643 : decode cL_law 643 = .ok (.iconst 1, 1) := by decide +kernel
theorem dL_law_644 : decode cL_law 644 = .ok (.iadd, 1) := by decide +kernel
theorem dL_law_645 : decode cL_law 645 = .ok (.iaload, 1) := by decide +kernel
theorem dL_law_646 : decode cL_law 646 = .ok (.aload_n 0, 1) := by decide +kernel
theorem dL_law_647 : decode cL_law 647 = .ok (.iload_n 3, 1) := by decide +kernel
theorem dL_law_648 : decode cL_law 648 = .ok (.iconst 2, 1) := by decide +kernel
theorem dL_law_649 : decode cL_law 649 = .ok (.iadd, 1) := by decide +kernel
theorem dL_law_650 : decode cL_law 650 = .ok (.iaload, 1) := by decide +kernel
theorem dL_law_651 : decode cL_law 651 = .ok (.aload_n 0, 1) := by decide +kernel
theorem dL_law_652 : decode cL_law 652 = .ok (.iload_n 3, 1) := by decide +kernel
theorem dL_law_653 : decode cL_law 653 = .ok (.iconst 3, 1) := by decide +kernel
theorem dL_law_654 : decode cL_law 654 = .ok (.iadd, 1) := by decide +kernel
theorem dL_law_655 : decode cL_law 655 = .ok (.iaload, 1) := by decide +kernel
theorem dL_law_656 : decode cL_law 656 = .ok (.invokevirtual 88, 3) := by decide +kernel
theorem dL_law_659 : decode cL_law 659 = .ok (.if_icmp .eq 390, 3) := by decide +kernel
theorem dL_law_662 : decode cL_law 662 = .ok (.iconst 0, 1) := by decide +kernel
theorem dL_law_663 : decode cL_law 663 = .ok (.ireturn, 1) := by decide +kernel
theorem dL_law_664 : decode cL_law 664 = .ok (.aload_n 1, 1) := by decide +kernel
theorem dL_law_665 : decode cL_law 665 = .ok (.aload_n 0, 1) := by decide +kernel
theorem dL_law_666 : decode cL_law 666 = .ok (.iload_n 3, 1) := by decide +kernel
theorem dL_law_667 : decode cL_law 667 = .ok (.iconst 1, 1) := by decide +kernel
theorem dL_law_668 : decode cL_law 668 = .ok (.iadd, 1) := by decide +kernel
theorem dL_law_669 : decode cL_law 669 = .ok (.iaload, 1) := by decide +kernel
theorem dL_law_670 : decode cL_law 670 = .ok (.aload_n 0, 1) := by decide +kernel
theorem dL_law_671 : decode cL_law 671 = .ok (.iload_n 3, 1) := by decide +kernel
theorem dL_law_672 : decode cL_law 672 = .ok (.iconst 2, 1) := by decide +kernel
theorem dL_law_673 : decode cL_law 673 = .ok (.iadd, 1) := by decide +kernel
theorem dL_law_674 : decode cL_law 674 = .ok (.iaload, 1) := by decide +kernel
theorem dL_law_675 : decode cL_law 675 = .ok (.invokevirtual 89, 3) := by decide +kernel
theorem dL_law_678 : decode cL_law 678 = .ok (.aload_n 2, 1) := by decide +kernel
theorem dL_law_679 : decode cL_law 679 = .ok (.aload_n 0, 1) := by decide +kernel
theorem dL_law_680 : decode cL_law 680 = .ok (.iload_n 3, 1) := by decide +kernel
theorem dL_law_681 : decode cL_law 681 = .ok (.iconst 1, 1) := by decide +kernel
theorem dL_law_682 : decode cL_law 682 = .ok (.iadd, 1) := by decide +kernel
theorem dL_law_683 : decode cL_law 683 = .ok (.iaload, 1) := by decide +kernel
theorem dL_law_684 : decode cL_law 684 = .ok (.aload_n 0, 1) := by decide +kernel
theorem dL_law_685 : decode cL_law 685 = .ok (.iload_n 3, 1) := by decide +kernel
theorem dL_law_686 : decode cL_law 686 = .ok (.iconst 2, 1) := by decide +kernel
theorem dL_law_687 : decode cL_law 687 = .ok (.iadd, 1) := by decide +kernel
theorem dL_law_688 : decode cL_law 688 = .ok (.iaload, 1) := by decide +kernel
theorem dL_law_689 : decode cL_law 689 = .ok (.invokevirtual 92, 3) := by decide +kernel
theorem dL_law_692 : decode cL_law 692 = .ok (.if_icmp .eq 357, 3) := by decide +kernel
theorem dL_law_695 : decode cL_law 695 = .ok (.iconst 0, 1) := by decide +kernel
theorem dL_law_696 : decode cL_law 696 = .ok (.ireturn, 1) := by decide +kernel
theorem dL_law_697 : decode cL_law 697 = .ok (.aload_n 1, 1) := by decide +kernel
theorem dL_law_698 : decode cL_law 698 = .ok (.aload_n 0, 1) := by decide +kernel
theorem dL_law_699 : decode cL_law 699 = .ok (.iload_n 3, 1) := by decide +kernel
theorem dL_law_700 : decode cL_law 700 = .ok (.iconst 1, 1) := by decide +kernel
theorem dL_law_701 : decode cL_law 701 = .ok (.iadd, 1) := by decide +kernel
theorem dL_law_702 : decode cL_law 702 = .ok (.iaload, 1) := by decide +kernel
theorem dL_law_703 : decode cL_law 703 = .ok (.aload_n 0, 1) := by decide +kernel
theorem dL_law_704 : decode cL_law 704 = .ok (.iload_n 3, 1) := by decide +kernel
theorem dL_law_705 : decode cL_law 705 = .ok (.iconst 2, 1) := by decide +kernel
theorem dL_law_706 : decode cL_law 706 = .ok (.iadd, 1) := by decide +kernel
theorem dL_law_707 : decode cL_law 707 = .ok (.iaload, 1) := by decide +kernel
theorem dL_law_708 : decode cL_law 708 = .ok (.aload_n 0, 1) := by decide +kernel
theorem dL_law_709 : decode cL_law 709 = .ok (.iload_n 3, 1) := by decide +kernel
theorem dL_law_710 : decode cL_law 710 = .ok (.iconst 3, 1) := by decide +kernel
theorem dL_law_711 : decode cL_law 711 = .ok (.iadd, 1) := by decide +kernel
theorem dL_law_712 : decode cL_law 712 = .ok (.iaload, 1) := by decide +kernel
theorem dL_law_713 : decode cL_law 713 = .ok (.invokevirtual 93, 3) := by decide +kernel
theorem dL_law_716 : decode cL_law 716 = .ok (.aload_n 2, 1) := by decide +kernel
theorem dL_law_717 : decode cL_law 717 = .ok (.aload_n 0, 1) := by decide +kernel
theorem dL_law_718 : decode cL_law 718 = .ok (.iload_n 3, 1) := by decide +kernel
theorem dL_law_719 : decode cL_law 719 = .ok (.iconst 1, 1) := by decide +kernel
theorem dL_law_720 : decode cL_law 720 = .ok (.iadd, 1) := by decide +kernel
theorem dL_law_721 : decode cL_law 721 = .ok (.iaload, 1) := by decide +kernel
theorem dL_law_722 : decode cL_law 722 = .ok (.aload_n 0, 1) := by decide +kernel
theorem dL_law_723 : decode cL_law 723 = .ok (.iload_n 3, 1) := by decide +kernel
theorem dL_law_724 : decode cL_law 724 = .ok (.iconst 2, 1) := by decide +kernel
theorem dL_law_725 : decode cL_law 725 = .ok (.iadd, 1) := by decide +kernel
theorem dL_law_726 : decode cL_law 726 = .ok (.iaload, 1) := by decide +kernel
theorem dL_law_727 : decode cL_law 727 = .ok (.aload_n 0, 1) := by decide +kernel
theorem dL_law_728 : decode cL_law 728 = .ok (.iload_n 3, 1) := by decide +kernel
theorem dL_law_729 : decode cL_law 729 = .ok (.iconst 3, 1) := by decide +kernel
theorem dL_law_730 : decode cL_law 730 = .ok (.iadd, 1) := by decide +kernel
theorem dL_law_731 : decode cL_law 731 = .ok (.iaload, 1) := by decide +kernel
theorem dL_law_732 : decode cL_law 732 = .ok (.invokevirtual 96, 3) := by decide +kernel
theorem dL_law_735 : decode cL_law 735 = .ok (.if_icmp .eq 314, 3) := by decide +kernel
theorem dL_law_738 : decode cL_law 738 = .ok (.iconst 0, 1) := by decide +kernel
theorem dL_law_739 : decode cL_law 739 = .ok (.ireturn, 1) := by decide +kernel
theorem dL_law_740 : decode cL_law 740 = .ok (.aload_n 1, 1) := by decide +kernel
theorem dL_law_741 : decode cL_law 741 = .ok (.invokevirtual 97, 3) := by decide +kernel
theorem dL_law_744 : decode cL_law 744 = .ok (.aload_n 2, 1) := by decide +kernel
theorem dL_law_745 : decode cL_law 745 = .ok (.invokevirtual 100, 3) := by decide +kernel
theorem dL_law_748 : decode cL_law 748 = .ok (.if_icmp .eq 301, 3) := by decide +kernel
theorem dL_law_751 : decode cL_law 751 = .ok (.iconst 0, 1) := by decide +kernel
theorem dL_law_752 : decode cL_law 752 = .ok (.ireturn, 1) := by decide +kernel
theorem dL_law_753 : decode cL_law 753 = .ok (.aload_n 1, 1) := by decide +kernel
theorem dL_law_754 : decode cL_law 754 = .ok (.invokevirtual 101, 3) := by decide +kernel
theorem dL_law_757 : decode cL_law 757 = .ok (.aload_n 2, 1) := by decide +kernel
theorem dL_law_758 : decode cL_law 758 = .ok (.invokevirtual 104, 3) := by decide +kernel
theorem dL_law_761 : decode cL_law 761 = .ok (.if_icmp .eq 288, 3) := by decide +kernel
theorem dL_law_764 : decode cL_law 764 = .ok (.iconst 0, 1) := by decide +kernel
theorem dL_law_765 : decode cL_law 765 = .ok (.ireturn, 1) := by decide +kernel
theorem dL_law_766 : decode cL_law 766 = .ok (.aload_n 1, 1) := by decide +kernel
theorem dL_law_767 : decode cL_law 767 = .ok (.aload_n 0, 1) := by decide +kernel
theorem dL_law_768 : decode cL_law 768 = .ok (.iload_n 3, 1) := by decide +kernel
theorem dL_law_769 : decode cL_law 769 = .ok (.iconst 1, 1) := by decide +kernel
theorem dL_law_770 : decode cL_law 770 = .ok (.iadd, 1) := by decide +kernel
theorem dL_law_771 : decode cL_law 771 = .ok (.iaload, 1) := by decide +kernel
theorem dL_law_772 : decode cL_law 772 = .ok (.aload_n 0, 1) := by decide +kernel
theorem dL_law_773 : decode cL_law 773 = .ok (.iload_n 3, 1) := by decide +kernel
theorem dL_law_774 : decode cL_law 774 = .ok (.iconst 2, 1) := by decide +kernel
theorem dL_law_775 : decode cL_law 775 = .ok (.iadd, 1) := by decide +kernel
theorem dL_law_776 : decode cL_law 776 = .ok (.iaload, 1) := by decide +kernel
theorem dL_law_777 : decode cL_law 777 = .ok (.aload_n 0, 1) := by decide +kernel
theorem dL_law_778 : decode cL_law 778 = .ok (.iload_n 3, 1) := by decide +kernel
theorem dL_law_779 : decode cL_law 779 = .ok (.iconst 3, 1) := by decide +kernel
theorem dL_law_780 : decode cL_law 780 = .ok (.iadd, 1) := by decide +kernel
theorem dL_law_781 : decode cL_law 781 = .ok (.iaload, 1) := by decide +kernel
theorem dL_law_782 : decode cL_law 782 = .ok (.invokevirtual 105, 3) := by decide +kernel
theorem dL_law_785 : decode cL_law 785 = .ok (.aload_n 2, 1) := by decide +kernel
theorem dL_law_786 : decode cL_law 786 = .ok (.aload_n 0, 1) := by decide +kernel
theorem dL_law_787 : decode cL_law 787 = .ok (.iload_n 3, 1) := by decide +kernel
theorem dL_law_788 : decode cL_law 788 = .ok (.iconst 1, 1) := by decide +kernel
theorem dL_law_789 : decode cL_law 789 = .ok (.iadd, 1) := by decide +kernel
theorem dL_law_790 : decode cL_law 790 = .ok (.iaload, 1) := by decide +kernel
theorem dL_law_791 : decode cL_law 791 = .ok (.aload_n 0, 1) := by decide +kernel
theorem dL_law_792 : decode cL_law 792 = .ok (.iload_n 3, 1) := by decide +kernel
theorem dL_law_793 : decode cL_law 793 = .ok (.iconst 2, 1) := by decide +kernel
theorem dL_law_794 : decode cL_law 794 = .ok (.iadd, 1) := by decide +kernel
theorem dL_law_795 : decode cL_law 795 = .ok (.iaload, 1) := by decide +kernel
theorem dL_law_796 : decode cL_law 796 = .ok (.aload_n 0, 1) := by decide +kernel
theorem dL_law_797 : decode cL_law 797 = .ok (.iload_n 3, 1) := by decide +kernel
theorem dL_law_798 : decode cL_law 798 = .ok (.iconst 3, 1) := by decide +kernel
theorem dL_law_799 : decode cL_law 799 = .ok (.iadd, 1) := by decide +kernel
theorem dL_law_800 : decode cL_law 800 = .ok (.iaload, 1) := by decide +kernel
theorem dL_law_801 : decode cL_law 801 = .ok (.invokevirtual 108, 3) := by decide +kernel
theorem dL_law_804 : decode cL_law 804 = .ok (.if_icmp .eq 245, 3) := by decide +kernel
theorem dL_law_807 : decode cL_law 807 = .ok (.iconst 0, 1) := by decide +kernel
theorem dL_law_808 : decode cL_law 808 = .ok (.ireturn, 1) := by decide +kernel
theorem dL_law_809 : decode cL_law 809 = .ok (.aload_n 1, 1) := by decide +kernel
theorem dL_law_810 : decode cL_law 810 = .ok (.aload_n 0, 1) := by decide +kernel
theorem dL_law_811 : decode cL_law 811 = .ok (.iload_n 3, 1) := by decide +kernel
theorem dL_law_812 : decode cL_law 812 = .ok (.iconst 1, 1) := by decide +kernel
theorem dL_law_813 : decode cL_law 813 = .ok (.iadd, 1) := by decide +kernel
theorem dL_law_814 : decode cL_law 814 = .ok (.iaload, 1) := by decide +kernel
theorem dL_law_815 : decode cL_law 815 = .ok (.aload_n 0, 1) := by decide +kernel
theorem dL_law_816 : decode cL_law 816 = .ok (.iload_n 3, 1) := by decide +kernel
theorem dL_law_817 : decode cL_law 817 = .ok (.iconst 2, 1) := by decide +kernel
theorem dL_law_818 : decode cL_law 818 = .ok (.iadd, 1) := by decide +kernel
theorem dL_law_819 : decode cL_law 819 = .ok (.iaload, 1) := by decide +kernel
theorem dL_law_820 : decode cL_law 820 = .ok (.aload_n 0, 1) := by decide +kernel
theorem dL_law_821 : decode cL_law 821 = .ok (.iload_n 3, 1) := by decide +kernel
theorem dL_law_822 : decode cL_law 822 = .ok (.iconst 3, 1) := by decide +kernel
theorem dL_law_823 : decode cL_law 823 = .ok (.iadd, 1) := by decide +kernel
theorem dL_law_824 : decode cL_law 824 = .ok (.iaload, 1) := by decide +kernel
theorem dL_law_825 : decode cL_law 825 = .ok (.invokevirtual 109, 3) := by decide +kernel
theorem dL_law_828 : decode cL_law 828 = .ok (.aload_n 2, 1) := by decide +kernel
theorem dL_law_829 : decode cL_law 829 = .ok (.aload_n 0, 1) := by decide +kernel
theorem dL_law_830 : decode cL_law 830 = .ok (.iload_n 3, 1) := by decide +kernel
theorem dL_law_831 : decode cL_law 831 = .ok (.iconst 1, 1) := by decide +kernel
theorem dL_law_832 : decode cL_law 832 = .ok (.iadd, 1) := by decide +kernel
theorem dL_law_833 : decode cL_law 833 = .ok (.iaload, 1) := by decide +kernel
theorem dL_law_834 : decode cL_law 834 = .ok (.aload_n 0, 1) := by decide +kernel
theorem dL_law_835 : decode cL_law 835 = .ok (.iload_n 3, 1) := by decide +kernel
theorem dL_law_836 : decode cL_law 836 = .ok (.iconst 2, 1) := by decide +kernel
theorem dL_law_837 : decode cL_law 837 = .ok (.iadd, 1) := by decide +kernel
theorem dL_law_838 : decode cL_law 838 = .ok (.iaload, 1) := by decide +kernel
theorem dL_law_839 : decode cL_law 839 = .ok (.aload_n 0, 1) := by decide +kernel
theorem dL_law_840 : decode cL_law 840 = .ok (.iload_n 3, 1) := by decide +kernel
theorem dL_law_841 : decode cL_law 841 = .ok (.iconst 3, 1) := by decide +kernel
theorem dL_law_842 : decode cL_law 842 = .ok (.iadd, 1) := by decide +kernel
theorem dL_law_843 : decode cL_law 843 = .ok (.iaload, 1) := by decide +kernel
theorem dL_law_844 : decode cL_law 844 = .ok (.invokevirtual 112, 3) := by decide +kernel
theorem dL_law_847 : decode cL_law 847 = .ok (.if_icmp .eq 202, 3) := by decide +kernel
theorem dL_law_850 : decode cL_law 850 = .ok (.iconst 0, 1) := by decide +kernel
theorem dL_law_851 : decode cL_law 851 = .ok (.ireturn, 1) := by decide +kernel
theorem dL_law_852 : decode cL_law 852 = .ok (.aload_n 1, 1) := by decide +kernel
theorem dL_law_853 : decode cL_law 853 = .ok (.aload_n 0, 1) := by decide +kernel
theorem dL_law_854 : decode cL_law 854 = .ok (.iload_n 3, 1) := by decide +kernel
theorem dL_law_855 : decode cL_law 855 = .ok (.iconst 1, 1) := by decide +kernel
theorem dL_law_856 : decode cL_law 856 = .ok (.iadd, 1) := by decide +kernel
theorem dL_law_857 : decode cL_law 857 = .ok (.iaload, 1) := by decide +kernel
theorem dL_law_858 : decode cL_law 858 = .ok (.aload_n 0, 1) := by decide +kernel
theorem dL_law_859 : decode cL_law 859 = .ok (.iload_n 3, 1) := by decide +kernel
theorem dL_law_860 : decode cL_law 860 = .ok (.iconst 2, 1) := by decide +kernel
theorem dL_law_861 : decode cL_law 861 = .ok (.iadd, 1) := by decide +kernel
theorem dL_law_862 : decode cL_law 862 = .ok (.iaload, 1) := by decide +kernel
theorem dL_law_863 : decode cL_law 863 = .ok (.invokevirtual 113, 3) := by decide +kernel
end
section
theorem dL_law_866 : decode cL_law 866 = .ok (.aload_n 2, 1) := by decide +kernel
theorem dL_law_867 : decode cL_law 867 = .ok (.aload_n 0, 1) := by decide +kernel
theorem dL_law_868 : decode cL_law 868 = .ok (.iload_n 3, 1) := by decide +kernel
theorem dL_law_869 : decode cL_law 869 = .ok (.iconst 1, 1) := by decide +kernel
theorem dL_law_870 : decode cL_law 870 = .ok (.iadd, 1) := by decide +kernel
theorem dL_law_871 : decode cL_law 871 = .ok (.iaload, 1) := by decide +kernel
theorem dL_law_872 : decode cL_law 872 = .ok (.aload_n 0, 1) := by decide +kernel
theorem dL_law_873 : decode cL_law 873 = .ok (.iload_n 3, 1) := by decide +kernel
theorem dL_law_874 : decode cL_law 874 = .ok (.iconst 2, 1) := by decide +kernel
theorem dL_law_875 : decode cL_law 875 = .ok (.iadd, 1) := by decide +kernel
theorem dL_law_876 : decode cL_law 876 = .ok (.iaload, 1) := by decide +kernel
theorem dL_law_877 : decode cL_law 877 = .ok (.invokevirtual 116, 3) := by decide +kernel
theorem dL_law_880 : decode cL_law 880 = .ok (.if_icmp .eq 169, 3) := by decide +kernel
theorem dL_law_883 : decode cL_law 883 = .ok (.iconst 0, 1) := by decide +kernel
theorem dL_law_884 : decode cL_law 884 = .ok (.ireturn, 1) := by decide +kernel
theorem dL_law_885 : decode cL_law 885 = .ok (.aload_n 1, 1) := by decide +kernel
theorem dL_law_886 : decode cL_law 886 = .ok (.aload_n 0, 1) := by decide +kernel
theorem dL_law_887 : decode cL_law 887 = .ok (.iload_n 3, 1) := by decide +kernel
theorem dL_law_888 : decode cL_law 888 = .ok (.iconst 1, 1) := by decide +kernel
theorem dL_law_889 : decode cL_law 889 = .ok (.iadd, 1) := by decide +kernel
theorem dL_law_890 : decode cL_law 890 = .ok (.iaload, 1) := by decide +kernel
theorem dL_law_891 : decode cL_law 891 = .ok (.invokevirtual 117, 3) := by decide +kernel
theorem dL_law_894 : decode cL_law 894 = .ok (.aload_n 2, 1) := by decide +kernel
theorem dL_law_895 : decode cL_law 895 = .ok (.aload_n 0, 1) := by decide +kernel
theorem dL_law_896 : decode cL_law 896 = .ok (.iload_n 3, 1) := by decide +kernel
theorem dL_law_897 : decode cL_law 897 = .ok (.iconst 1, 1) := by decide +kernel
theorem dL_law_898 : decode cL_law 898 = .ok (.iadd, 1) := by decide +kernel
theorem dL_law_899 : decode cL_law 899 = .ok (.iaload, 1) := by decide +kernel
theorem dL_law_900 : decode cL_law 900 = .ok (.invokevirtual 120, 3) := by decide +kernel
theorem dL_law_903 : decode cL_law 903 = .ok (.if_icmp .eq 146, 3) := by decide +kernel
theorem dL_law_906 : decode cL_law 906 = .ok (.iconst 0, 1) := by decide +kernel
theorem dL_law_907 : decode cL_law 907 = .ok (.ireturn, 1) := by decide +kernel
theorem dL_law_908 : decode cL_law 908 = .ok (.aload_n 1, 1) := by decide +kernel
theorem dL_law_909 : decode cL_law 909 = .ok (.aload_n 0, 1) := by decide +kernel
theorem dL_law_910 : decode cL_law 910 = .ok (.iload_n 3, 1) := by decide +kernel
theorem dL_law_911 : decode cL_law 911 = .ok (.iconst 1, 1) := by decide +kernel
theorem dL_law_912 : decode cL_law 912 = .ok (.iadd, 1) := by decide +kernel
theorem dL_law_913 : decode cL_law 913 = .ok (.iaload, 1) := by decide +kernel
theorem dL_law_914 : decode cL_law 914 = .ok (.invokevirtual 121, 3) := by decide +kernel
theorem dL_law_917 : decode cL_law 917 = .ok (.aload_n 2, 1) := by decide +kernel
theorem dL_law_918 : decode cL_law 918 = .ok (.aload_n 0, 1) := by decide +kernel
theorem dL_law_919 : decode cL_law 919 = .ok (.iload_n 3, 1) := by decide +kernel
theorem dL_law_920 : decode cL_law 920 = .ok (.iconst 1, 1) := by decide +kernel
theorem dL_law_921 : decode cL_law 921 = .ok (.iadd, 1) := by decide +kernel
theorem dL_law_922 : decode cL_law 922 = .ok (.iaload, 1) := by decide +kernel
theorem dL_law_923 : decode cL_law 923 = .ok (.invokevirtual 124, 3) := by decide +kernel
theorem dL_law_926 : decode cL_law 926 = .ok (.if_icmp .eq 123, 3) := by decide +kernel
theorem dL_law_929 : decode cL_law 929 = .ok (.iconst 0, 1) := by decide +kernel
theorem dL_law_930 : decode cL_law 930 = .ok (.ireturn, 1) := by decide +kernel
theorem dL_law_931 : decode cL_law 931 = .ok (.aload_n 1, 1) := by decide +kernel
theorem dL_law_932 : decode cL_law 932 = .ok (.aload_n 0, 1) := by decide +kernel
theorem dL_law_933 : decode cL_law 933 = .ok (.iload_n 3, 1) := by decide +kernel
theorem dL_law_934 : decode cL_law 934 = .ok (.iconst 1, 1) := by decide +kernel
theorem dL_law_935 : decode cL_law 935 = .ok (.iadd, 1) := by decide +kernel
theorem dL_law_936 : decode cL_law 936 = .ok (.iaload, 1) := by decide +kernel
theorem dL_law_937 : decode cL_law 937 = .ok (.invokevirtual 125, 3) := by decide +kernel
theorem dL_law_940 : decode cL_law 940 = .ok (.aload_n 2, 1) := by decide +kernel
theorem dL_law_941 : decode cL_law 941 = .ok (.aload_n 0, 1) := by decide +kernel
theorem dL_law_942 : decode cL_law 942 = .ok (.iload_n 3, 1) := by decide +kernel
theorem dL_law_943 : decode cL_law 943 = .ok (.iconst 1, 1) := by decide +kernel
theorem dL_law_944 : decode cL_law 944 = .ok (.iadd, 1) := by decide +kernel
theorem dL_law_945 : decode cL_law 945 = .ok (.iaload, 1) := by decide +kernel
theorem dL_law_946 : decode cL_law 946 = .ok (.invokevirtual 128, 3) := by decide +kernel
theorem dL_law_949 : decode cL_law 949 = .ok (.if_icmp .eq 100, 3) := by decide +kernel
theorem dL_law_952 : decode cL_law 952 = .ok (.iconst 0, 1) := by decide +kernel
theorem dL_law_953 : decode cL_law 953 = .ok (.ireturn, 1) := by decide +kernel
theorem dL_law_954 : decode cL_law 954 = .ok (.aload_n 1, 1) := by decide +kernel
theorem dL_law_955 : decode cL_law 955 = .ok (.invokevirtual 129, 3) := by decide +kernel
theorem dL_law_958 : decode cL_law 958 = .ok (.aload_n 2, 1) := by decide +kernel
theorem dL_law_959 : decode cL_law 959 = .ok (.invokevirtual 132, 3) := by decide +kernel
theorem dL_law_962 : decode cL_law 962 = .ok (.if_icmp .eq 87, 3) := by decide +kernel
theorem dL_law_965 : decode cL_law 965 = .ok (.iconst 0, 1) := by decide +kernel
theorem dL_law_966 : decode cL_law 966 = .ok (.ireturn, 1) := by decide +kernel
theorem dL_law_967 : decode cL_law 967 = .ok (.aload_n 1, 1) := by decide +kernel
theorem dL_law_968 : decode cL_law 968 = .ok (.aload_n 0, 1) := by decide +kernel
theorem dL_law_969 : decode cL_law 969 = .ok (.iload_n 3, 1) := by decide +kernel
theorem dL_law_970 : decode cL_law 970 = .ok (.iconst 1, 1) := by decide +kernel
theorem dL_law_971 : decode cL_law 971 = .ok (.iadd, 1) := by decide +kernel
theorem dL_law_972 : decode cL_law 972 = .ok (.iaload, 1) := by decide +kernel
theorem dL_law_973 : decode cL_law 973 = .ok (.aload_n 0, 1) := by decide +kernel
theorem dL_law_974 : decode cL_law 974 = .ok (.iload_n 3, 1) := by decide +kernel
theorem dL_law_975 : decode cL_law 975 = .ok (.iconst 2, 1) := by decide +kernel
theorem dL_law_976 : decode cL_law 976 = .ok (.iadd, 1) := by decide +kernel
theorem dL_law_977 : decode cL_law 977 = .ok (.iaload, 1) := by decide +kernel
theorem dL_law_978 : decode cL_law 978 = .ok (.invokevirtual 133, 3) := by decide +kernel
theorem dL_law_981 : decode cL_law 981 = .ok (.aload_n 2, 1) := by decide +kernel
theorem dL_law_982 : decode cL_law 982 = .ok (.aload_n 0, 1) := by decide +kernel
theorem dL_law_983 : decode cL_law 983 = .ok (.iload_n 3, 1) := by decide +kernel
theorem dL_law_984 : decode cL_law 984 = .ok (.iconst 1, 1) := by decide +kernel
theorem dL_law_985 : decode cL_law 985 = .ok (.iadd, 1) := by decide +kernel
theorem dL_law_986 : decode cL_law 986 = .ok (.iaload, 1) := by decide +kernel
theorem dL_law_987 : decode cL_law 987 = .ok (.aload_n 0, 1) := by decide +kernel
theorem dL_law_988 : decode cL_law 988 = .ok (.iload_n 3, 1) := by decide +kernel
theorem dL_law_989 : decode cL_law 989 = .ok (.iconst 2, 1) := by decide +kernel
theorem dL_law_990 : decode cL_law 990 = .ok (.iadd, 1) := by decide +kernel
theorem dL_law_991 : decode cL_law 991 = .ok (.iaload, 1) := by decide +kernel
theorem dL_law_992 : decode cL_law 992 = .ok (.invokevirtual 136, 3) := by decide +kernel
theorem dL_law_995 : decode cL_law 995 = .ok (.if_icmp .eq 54, 3) := by decide +kernel
theorem dL_law_998 : decode cL_law 998 = .ok (.iconst 0, 1) := by decide +kernel
theorem dL_law_999 : decode cL_law 999 = .ok (.ireturn, 1) := by decide +kernel
theorem dL_law_1000 : decode cL_law 1000 = .ok (.aload_n 1, 1) := by decide +kernel
theorem dL_law_1001 : decode cL_law 1001 = .ok (.invokevirtual 137, 3) := by decide +kernel
theorem dL_law_1004 : decode cL_law 1004 = .ok (.aload_n 2, 1) := by decide +kernel
theorem dL_law_1005 : decode cL_law 1005 = .ok (.invokevirtual 140, 3) := by decide +kernel
theorem dL_law_1008 : decode cL_law 1008 = .ok (.if_icmp .eq 41, 3) := by decide +kernel
theorem dL_law_1011 : decode cL_law 1011 = .ok (.iconst 0, 1) := by decide +kernel
theorem dL_law_1012 : decode cL_law 1012 = .ok (.ireturn, 1) := by decide +kernel
theorem dL_law_1013 : decode cL_law 1013 = .ok (.aload_n 1, 1) := by decide +kernel
theorem dL_law_1014 : decode cL_law 1014 = .ok (.invokevirtual 141, 3) := by decide +kernel
theorem dL_law_1017 : decode cL_law 1017 = .ok (.aload_n 2, 1) := by decide +kernel
theorem dL_law_1018 : decode cL_law 1018 = .ok (.invokevirtual 144, 3) := by decide +kernel
theorem dL_law_1021 : decode cL_law 1021 = .ok (.if_icmp .eq 28, 3) := by decide +kernel
theorem dL_law_1024 : decode cL_law 1024 = .ok (.iconst 0, 1) := by decide +kernel
theorem dL_law_1025 : decode cL_law 1025 = .ok (.ireturn, 1) := by decide +kernel
theorem dL_law_1026 : decode cL_law 1026 = .ok (.aload_n 1, 1) := by decide +kernel
theorem dL_law_1027 : decode cL_law 1027 = .ok (.aload_n 0, 1) := by decide +kernel
theorem dL_law_1028 : decode cL_law 1028 = .ok (.iload_n 3, 1) := by decide +kernel
theorem dL_law_1029 : decode cL_law 1029 = .ok (.iconst 1, 1) := by decide +kernel
theorem dL_law_1030 : decode cL_law 1030 = .ok (.iadd, 1) := by decide +kernel
theorem dL_law_1031 : decode cL_law 1031 = .ok (.iaload, 1) := by decide +kernel
theorem dL_law_1032 : decode cL_law 1032 = .ok (.invokevirtual 145, 3) := by decide +kernel
theorem dL_law_1035 : decode cL_law 1035 = .ok (.aload_n 2, 1) := by decide +kernel
theorem dL_law_1036 : decode cL_law 1036 = .ok (.aload_n 0, 1) := by decide +kernel
theorem dL_law_1037 : decode cL_law 1037 = .ok (.iload_n 3, 1) := by decide +kernel
theorem dL_law_1038 : decode cL_law 1038 = .ok (.iconst 1, 1) := by decide +kernel
theorem dL_law_1039 : decode cL_law 1039 = .ok (.iadd, 1) := by decide +kernel
theorem dL_law_1040 : decode cL_law 1040 = .ok (.iaload, 1) := by decide +kernel
theorem dL_law_1041 : decode cL_law 1041 = .ok (.invokevirtual 148, 3) := by decide +kernel
theorem dL_law_1044 : decode cL_law 1044 = .ok (.if_icmp .eq 5, 3) := by decide +kernel
theorem dL_law_1047 : decode cL_law 1047 = .ok (.iconst 0, 1) := by decide +kernel
theorem dL_law_1048 : decode cL_law 1048 = .ok (.ireturn, 1) := by decide +kernel
theorem dL_law_1049 : decode cL_law 1049 = .ok (.iinc 3 4, 3) := by decide +kernel
theorem dL_law_1052 : decode cL_law 1052 = .ok (.goto (-1034), 3) := by decide +kernel
theorem dL_law_1055 : decode cL_law 1055 = .ok (.iconst 1, 1) := by decide +kernel
theorem dL_law_1056 : decode cL_law 1056 = .ok (.ireturn, 1) := by decide +kernel
end
section
/-! The static picture of the world: 138 cells by number. 0 the class's object; 1 Search, 2 level, 3 chosen, 4 bestRow; 5 Letters, 6 letter; 7 morning, 8 numbers, 9 refusals; a Village at 10 + 11 i (now, saved, mind, level 0 .. 6): its object, kind, figure, to, has, finds, setting, Gifts, amount, counted, pairs; 120 the reference's object, 121 .. 137 its arrays. 138, 139: the two static arrays. Kinds: 0 .. 5 the classes of vwCl, 6 int[], 7 long[], 8 Village[], 9 a static int[]. -/
def NC : Nat := 138
def kd (k : Nat) : Nat := if k < 10 then ([4,2,8,6,6,1,6,6,6,6] : List Nat).getD k 99 else if k < 120 then ([3,6,6,6,6,6,6,0,6,6,7] : List Nat).getD ((k - 10) % 11) 99 else if k = 120 then 5 else if k < 138 then 6 else if k < 140 then 9 else 99
def len (k : Nat) : Nat := if k < 10 then ([0,0,7,6,6,0,64,6,12,7] : List Nat).getD k 0 else if k < 120 then ([0,6,6,6,6,6,4,0,252,36,11] : List Nat).getD ((k - 10) % 11) 0 else if k < 138 then ([0,6,6,6,6,6,462,7,6,480,64,33,33,165,6,12,480,27] : List Nat).getD (k - 120) 0 else if k < 140 then 4 else 0
def rf (k j : Nat) : Nat := if k < 10 then (if k = 0 then ([10,21,32,1,5,7,8,9] : List Nat).getD j 999 else if k = 1 then ([2,3,4] : List Nat).getD j 999 else if k = 2 then (if j < 7 then 43 + 11 * j else 999) else if k = 5 then ([6] : List Nat).getD j 999 else 999) else if k < 120 then (if (k - 10) % 11 = 0 then (if j < 7 then k + 1 + j else 999) else if (k - 10) % 11 = 7 then (if j < 3 then k + 1 + j else 999) else 999) else if k = 120 then ([999,999,999,999,999,999,121,122,123,124,125,126,999,999,127,128,129,999,999,999,130,999,999,999,999,131,132,133,999,134,999,999,999,135,999,999,999,136,137] : List Nat).getD j 999 else 999
def stc (k j : Nat) : Int32 := if k = 138 then ([0,1,0,0] : List Int32).getD j 0 else ([5,5,5,99] : List Int32).getD j 0
abbrev OKr (a ci : Nat) : Prop := a < NC ∧ kd a = ci
/-- ints by cell and slot, longs by cell and slot, the reference's keptIn -/
abbrev Hp : Type := (Nat → Nat → Int32) × (Nat → Nat → Int64) × Option Nat
/-- class ids and slots of the classes, the cells' addresses, the arrays' class ids -/
abbrev Ep : Type := (Nat → ClassId) × (Nat → Nat → Nat) × (Nat → Nat) × (Nat → ClassId)
abbrev ad (E : Ep) : Nat → Nat := E.2.2.1
abbrev cid (E : Ep) : Nat → ClassId := E.2.2.2
abbrev eD (E : Ep) : va_G := (E.1, E.2.1)
def upd2 (f : Nat → Nat → Int32) (a j : Nat) (v : Int32) : Nat → Nat → Int32 := fun k => if k = a then upd (f k) j v else f k
def upd2L (f : Nat → Nat → Int64) (a j : Nat) (v : Int64) : Nat → Nat → Int64 := fun k => if k = a then vp_updL (f k) j v else f k
def wI (h : Hp) (a j : Nat) (v : Int32) : Hp := (upd2 h.1 a j v, h.2)
def wJ (h : Hp) (a j : Nat) (v : Int64) : Hp := (h.1, upd2L h.2.1 a j v, h.2.2)
def wK (h : Hp) (v : Nat) : Hp := (h.1, h.2.1, some v)
def cpI (h : Hp) (a0 sp a1 dp n : Nat) : Hp := (fun k => if k = a1 then va_cpy (h.1 a0) (h.1 a1) sp dp n else h.1 k, h.2)
def cpJ (h : Hp) (a0 sp a1 dp n : Nat) : Hp := (h.1, fun k => if k = a1 then va_cpy (h.2.1 a0) (h.2.1 a1) sp dp n else h.2.1 k, h.2.2)
/-- the reads and writes of the shadows: none where the machine would throw -/
def ldI (h : Hp) (a : Nat) (i : Int32) : Option Int32 := if i < 0 ∨ len a ≤ i.toNatClampNeg then none else some (h.1 a i.toNatClampNeg)
def ldJ (h : Hp) (a : Nat) (i : Int32) : Option Int64 := if i < 0 ∨ len a ≤ i.toNatClampNeg then none else some (h.2.1 a i.toNatClampNeg)
def ldR (a : Nat) (i : Int32) : Option Nat := if i < 0 ∨ len a ≤ i.toNatClampNeg then none else some (rf a i.toNatClampNeg)
def ldS (a : Nat) (i : Int32) : Option Int32 := if i < 0 ∨ len a ≤ i.toNatClampNeg then none else some (stc a i.toNatClampNeg)
def stI (h : Hp) (a : Nat) (i v : Int32) : Option Hp := if i < 0 ∨ len a ≤ i.toNatClampNeg then none else some (wI h a i.toNatClampNeg v)
def stJ (h : Hp) (a : Nat) (i : Int32) (v : Int64) : Option Hp := if i < 0 ∨ len a ≤ i.toNatClampNeg then none else some (wJ h a i.toNatClampNeg v)
def gK (h : Hp) : Option Nat := match h.2.2 with
  | none => none
  | some a => if a < NC ∧ kd a = 6 then some a else none
def acI (h : Hp) (a0 : Nat) (sp : Int32) (a1 : Nat) (dp n : Int32) : Option Hp := if sp < 0 ∨ dp < 0 ∨ n < 0 ∨ len a0 < sp.toNatClampNeg + n.toNatClampNeg ∨ len a1 < dp.toNatClampNeg + n.toNatClampNeg then none else some (cpI h a0 sp.toNatClampNeg a1 dp.toNatClampNeg n.toNatClampNeg)
def acJ (h : Hp) (a0 : Nat) (sp : Int32) (a1 : Nat) (dp n : Int32) : Option Hp := if sp < 0 ∨ dp < 0 ∨ n < 0 ∨ len a0 < sp.toNatClampNeg + n.toNatClampNeg ∨ len a1 < dp.toNatClampNeg + n.toNatClampNeg then none else some (cpJ h a0 sp.toNatClampNeg a1 dp.toNatClampNeg n.toNatClampNeg)
def dvI (x y : Int32) : Option Int32 := if y = 0 then none else some (x / y)
def rmI (x y : Int32) : Option Int32 := if y = 0 then none else some (x - x / y * y)
/-- a boolean that is one -/
def bol (x : Int32) : Option Int32 := if x = 0 ∨ x = 1 then some x else none
theorem bnd {α β : Type} {x : Option α} {k : α → Option β} {r : β} (h : Option.bind x k = some r) : ∃ v, x = some v ∧ k v = some r := by
  cases x with
  | none => cases h
  | some v => exact ⟨v, rfl, h⟩
/-! cells and the world -/
def cel (E : Ep) (h : Hp) (k : Nat) : va_E := match kd k with
  | 0 => .inr (0, [.ref (ad E (rf k 0)), .ref (ad E (rf k 1)), .ref (ad E (rf k 2))])
  | 1 => .inr (1, [.ref (ad E (rf k 0)), .int (h.1 k 1), .int (h.1 k 2)])
  | 2 => .inr (2, [.ref (ad E (rf k 0)), .ref (ad E (rf k 1)), .ref (ad E (rf k 2)), .int (h.1 k 3), .int (h.1 k 4), .int (h.1 k 5), .int (h.1 k 6), .int (h.1 k 7)])
  | 3 => .inr (3, [.ref (ad E (rf k 0)), .ref (ad E (rf k 1)), .ref (ad E (rf k 2)), .ref (ad E (rf k 3)), .ref (ad E (rf k 4)), .ref (ad E (rf k 5)), .ref (ad E (rf k 6)), .int (h.1 k 7), .int (h.1 k 8)])
  | 4 => .inr (4, [.ref (ad E (rf k 0)), .ref (ad E (rf k 1)), .ref (ad E (rf k 2)), .ref (ad E (rf k 3)), .ref (ad E (rf k 4)), .ref (ad E (rf k 5)), .ref (ad E (rf k 6)), .ref (ad E (rf k 7)), .int (h.1 k 8), .int (h.1 k 9)])
  | 5 => .inr (5, [.int (h.1 k 0), .int (h.1 k 1), .int (h.1 k 2), .int (h.1 k 3), .int (h.1 k 4), .int (h.1 k 5), .ref (ad E (rf k 6)), .ref (ad E (rf k 7)), .ref (ad E (rf k 8)), .ref (ad E (rf k 9)), .ref (ad E (rf k 10)), .ref (ad E (rf k 11)), .int (h.1 k 12), .int (h.1 k 13), .ref (ad E (rf k 14)), .ref (ad E (rf k 15)), .ref (ad E (rf k 16)), .int (h.1 k 17), .int (h.1 k 18), va_rf (h.2.2.map (ad E)), .ref (ad E (rf k 20)), .int (h.1 k 21), .int (h.1 k 22), .int (h.1 k 23), .int (h.1 k 24), .ref (ad E (rf k 25)), .ref (ad E (rf k 26)), .ref (ad E (rf k 27)), .int (h.1 k 28), .ref (ad E (rf k 29)), .int (h.1 k 30), .int (h.1 k 31), .int (h.1 k 32), .ref (ad E (rf k 33)), .int (h.1 k 34), .int (h.1 k 35), .int (h.1 k 36), .ref (ad E (rf k 37)), .ref (ad E (rf k 38))])
  | 6 => .inl (cid E k, len k, .inl (h.1 k))
  | 7 => .inl (cid E k, len k, .inr (.inl (h.2.1 k)))
  | _ => .inl (cid E k, len k, .inr (.inr (.inr (.inr (fun j => some (ad E (rf k j)))))))
theorem ce0 (E : Ep) (h : Hp) {k : Nat} (hk : kd k = 0) : cel E h k = .inr (0, [.ref (ad E (rf k 0)), .ref (ad E (rf k 1)), .ref (ad E (rf k 2))]) := by unfold cel; rw [hk]; rfl
theorem ce1 (E : Ep) (h : Hp) {k : Nat} (hk : kd k = 1) : cel E h k = .inr (1, [.ref (ad E (rf k 0)), .int (h.1 k 1), .int (h.1 k 2)]) := by unfold cel; rw [hk]; rfl
theorem ce2 (E : Ep) (h : Hp) {k : Nat} (hk : kd k = 2) : cel E h k = .inr (2, [.ref (ad E (rf k 0)), .ref (ad E (rf k 1)), .ref (ad E (rf k 2)), .int (h.1 k 3), .int (h.1 k 4), .int (h.1 k 5), .int (h.1 k 6), .int (h.1 k 7)]) := by unfold cel; rw [hk]; rfl
theorem ce3 (E : Ep) (h : Hp) {k : Nat} (hk : kd k = 3) : cel E h k = .inr (3, [.ref (ad E (rf k 0)), .ref (ad E (rf k 1)), .ref (ad E (rf k 2)), .ref (ad E (rf k 3)), .ref (ad E (rf k 4)), .ref (ad E (rf k 5)), .ref (ad E (rf k 6)), .int (h.1 k 7), .int (h.1 k 8)]) := by unfold cel; rw [hk]; rfl
theorem ce4 (E : Ep) (h : Hp) {k : Nat} (hk : kd k = 4) : cel E h k = .inr (4, [.ref (ad E (rf k 0)), .ref (ad E (rf k 1)), .ref (ad E (rf k 2)), .ref (ad E (rf k 3)), .ref (ad E (rf k 4)), .ref (ad E (rf k 5)), .ref (ad E (rf k 6)), .ref (ad E (rf k 7)), .int (h.1 k 8), .int (h.1 k 9)]) := by unfold cel; rw [hk]; rfl
theorem ce5 (E : Ep) (h : Hp) {k : Nat} (hk : kd k = 5) : cel E h k = .inr (5, [.int (h.1 k 0), .int (h.1 k 1), .int (h.1 k 2), .int (h.1 k 3), .int (h.1 k 4), .int (h.1 k 5), .ref (ad E (rf k 6)), .ref (ad E (rf k 7)), .ref (ad E (rf k 8)), .ref (ad E (rf k 9)), .ref (ad E (rf k 10)), .ref (ad E (rf k 11)), .int (h.1 k 12), .int (h.1 k 13), .ref (ad E (rf k 14)), .ref (ad E (rf k 15)), .ref (ad E (rf k 16)), .int (h.1 k 17), .int (h.1 k 18), va_rf (h.2.2.map (ad E)), .ref (ad E (rf k 20)), .int (h.1 k 21), .int (h.1 k 22), .int (h.1 k 23), .int (h.1 k 24), .ref (ad E (rf k 25)), .ref (ad E (rf k 26)), .ref (ad E (rf k 27)), .int (h.1 k 28), .ref (ad E (rf k 29)), .int (h.1 k 30), .int (h.1 k 31), .int (h.1 k 32), .ref (ad E (rf k 33)), .int (h.1 k 34), .int (h.1 k 35), .int (h.1 k 36), .ref (ad E (rf k 37)), .ref (ad E (rf k 38))]) := by unfold cel; rw [hk]; rfl
theorem ce6 (E : Ep) (h : Hp) {k : Nat} (hk : kd k = 6) : cel E h k = .inl (cid E k, len k, .inl (h.1 k)) := by unfold cel; rw [hk]; rfl
theorem ce7 (E : Ep) (h : Hp) {k : Nat} (hk : kd k = 7) : cel E h k = .inl (cid E k, len k, .inr (.inl (h.2.1 k))) := by unfold cel; rw [hk]; rfl
theorem ce8 (E : Ep) (h : Hp) {k : Nat} (hk : kd k = 8) : cel E h k = .inl (cid E k, len k, .inr (.inr (.inr (.inr (fun j => some (ad E (rf k j))))))) := by unfold cel; rw [hk]; rfl
theorem cel_eq {E : Ep} {h h' : Hp} {k : Nat} (h1 : h'.1 k = h.1 k) (h2 : h'.2.1 k = h.2.1 k) (h3 : h'.2.2 = h.2.2 ∨ kd k ≠ 5) : cel E h' k = cel E h k := by
  unfold cel
  rw [h1, h2]
  rcases h3 with h3 | h3
  · rw [h3]
  · split <;> first | rfl | (exact absurd (by assumption) h3)
def wsH (E : Ep) (h : Hp) : va_W := (List.range NC).map fun k => (ad E k, cel E h k)
theorem wsH_at (E : Ep) (h : Hp) {k : Nat} (hk : k < NC) : (wsH E h)[k]? = some (ad E k, cel E h k) := by
  unfold wsH
  rw [List.getElem?_map, List.getElem?_range hk]
  rfl
theorem wsH_len (E : Ep) (h : Hp) : (wsH E h).length = NC := by unfold wsH; rw [List.length_map, List.length_range]
theorem wsH_lt {E : Ep} {h : Hp} {k : Nat} {q : Nat × va_E} (hk : (wsH E h)[k]? = some q) : k < NC ∧ q = (ad E k, cel E h k) := by
  have hl := (List.getElem?_eq_some_iff.mp hk).1
  rw [wsH_len] at hl
  rw [wsH_at E h hl] at hk
  exact ⟨hl, (Option.some.inj hk).symm⟩
theorem wsH_set {E : Ep} {h h' : Hp} {a : Nat} (ha : a < NC) (h1 : ∀ k, k ≠ a → cel E h' k = cel E h k) : (wsH E h).set a (ad E a, cel E h' a) = wsH E h' := by
  apply List.ext_getElem?
  intro k
  by_cases hk : k < NC
  · rw [wsH_at E h' hk]
    by_cases e : k = a
    · subst e
      rw [List.getElem?_set_self (by rw [wsH_len]; exact hk)]
    · rw [List.getElem?_set_ne (Ne.symm e), wsH_at E h hk, h1 k e]
  · have e1 : ((wsH E h).set a (ad E a, cel E h' a)).length ≤ k := by rw [List.length_set, wsH_len]; omega
    have e2 : (wsH E h').length ≤ k := by rw [wsH_len]; omega
    rw [List.getElem?_eq_none e1, List.getElem?_eq_none e2]
def AD (E : Ep) : Nat → Prop := fun q => ∃ k, k < NC ∧ q = ad E k
def Inj (E : Ep) : Prop := ∀ i j, i < NC → j < NC → ad E i = ad E j → i = j
theorem wsH_D {E : Ep} (h : Hp) (hI : Inj E) : va_D (AD E) (wsH E h) := by
  refine ⟨fun i j p q hi hj hpq => ?_, fun k q hk => ?_⟩
  · obtain ⟨h1, rfl⟩ := wsH_lt hi
    obtain ⟨h2, rfl⟩ := wsH_lt hj
    exact hI i j h1 h2 hpq
  · obtain ⟨h1, rfl⟩ := wsH_lt hk
    exact ⟨k, h1, rfl⟩
def Rp (E : Ep) (h : Hp) (H : Heap) : Prop := va_P (eD E) vwCl (wsH E h) H
/-! the words -/
def TB : List Cond := lw_tbl.filter goodWord
def isNest : Cond → Bool
  | .fieldLinkNest .. => true
  | .methodLinkNest .. => true
  | _ => false
def NWL : List Cond := lw_tbl.filter isNest
theorem tb_good {w : Cond} (h : w ∈ TB) : (w.onTables && w.keeps) = true ∨ ∃ ty, w = .arrayClass ty := good_of_word (List.mem_filter.mp h).2
theorem tb_tbl {w : Cond} (h : w ∈ TB) : w ∈ lw_tbl := (List.mem_filter.mp h).1
theorem tb_mem {w : Cond} (i : Nat) (h : lw_tbl[i]? = some w) (hg : goodWord w = true) : w ∈ TB := List.mem_filter.mpr ⟨List.mem_of_getElem? h, hg⟩
theorem nw_mem {w : Cond} (i : Nat) (h : lw_tbl[i]? = some w) (hg : isNest w = true) : w ∈ NWL := List.mem_filter.mpr ⟨List.mem_of_getElem? h, hg⟩
/-- what stands of the machine's tables and of the two static arrays -/
def Stt (E : Ep) (U : State) : Prop :=
  va_K (eD E) vwCl [] U ∧ (∀ k, k < NC → kd k = 6 → va_K (eD E) vwCl [(cid E k, .int)] U) ∧ (∀ k, k < NC → kd k = 7 → va_K (eD E) vwCl [(cid E k, .long)] U) ∧ (∀ k, k < NC → kd k = 8 → va_K (eD E) vwCl [(cid E k, .object RX3)] U) ∧
  (∀ w ∈ NWL, va_Nw w U) ∧ Inj E ∧
  va_Z RX4 "SETTING_LEAST" "[I" (.ref (ad E 138)) (AD E) U U.heap ∧ va_T .int (ad E 138) 4 (fun j => .int (stc 138 j)) (AD E) U U.heap ∧
  va_Z RX4 "SETTING_MOST" "[I" (.ref (ad E 139)) (AD E) U U.heap ∧ va_T .int (ad E 139) 4 (fun j => .int (stc 139 j)) (AD E) U U.heap
theorem nw_warm {w : Cond} (hw : w ∈ NWL) {s U : State} (hW : s.WarmedH U.vm) (h : va_Nw w s) : va_Nw w U := by
  have h1 := (List.mem_filter.mp hw).2
  cases w <;> first | (simp [isNest] at h1; done) | exact va_Nw.warmF hW h | exact va_Nw.warmM hW h
theorem Stt.moved {E : Ep} {s U : State} (h : Stt E s) (hW : s.WarmedH U.vm) (hH : ∀ a : Nat, a < s.heap.size → ¬ AD E a → U.heap[a]? = s.heap[a]?) : Stt E U := by
  obtain ⟨h1, h2, h3, h4, h5, h6, h7, h8, h9, h10⟩ := h
  exact ⟨va_K.moved hW.alike h1, fun k a b => va_K.moved hW.alike (h2 k a b), fun k a b => va_K.moved hW.alike (h3 k a b), fun k a b => va_K.moved hW.alike (h4 k a b), fun w hw => nw_warm hw hW (h5 w hw), h6,
    (va_Z.moved hW.alike h7).kept hH, (va_T.moved hW.alike h8).kept hH, (va_Z.moved hW.alike h9).kept hH, (va_T.moved hW.alike h10).kept hH⟩
theorem Stt.calling {E : Ep} {U : State} {g : JFrame} {mk : MethodId} {a : Array Value} (h : Stt E U) : Stt E (U.calling g mk a) := by
  have hA : U.vm.Alike (U.calling g mk a).vm := Vm.Alike.refl U.vm
  obtain ⟨h1, h2, h3, h4, h5, h6, h7, h8, h9, h10⟩ := h
  exact ⟨va_K.moved hA h1, fun k a b => va_K.moved hA (h2 k a b), fun k a b => va_K.moved hA (h3 k a b), fun k a b => va_K.moved hA (h4 k a b), fun w hw => by
      have h1 := (List.mem_filter.mp hw).2
      have hz := h5 w hw
      cases w <;> first | (simp [isNest] at h1; done) | exact va_Nw.same rfl rfl hz, h6,
    va_Z.moved hA h7, va_T.moved hA h8, va_Z.moved hA h9, va_T.moved hA h10⟩
/-! contracts -/
def rmd (d : Nat) : Room := { frames := d, cells := 0, slots := 0, locals := 40 * d }
def Qm (E : Ep) (r : Option Value) (h' : Hp) : Array Value → State → Outcome → State → Prop := fun _ st oc t => oc = .returned r ∧ Rp E h' t.heap ∧ va_F (AD E) st t
/-- from the abstract heap h the method y, with these arguments, returns r and leaves h' -/
def MG (l : Launch) (E : Ep) (y : MethodName) (cc : ByteArray) (maxL : Nat) (ret : Option FieldType) (d : Nat) (as : List Value) (h : Hp) (r : Option Value) (h' : Hp) : Prop :=
  Met l y (Cond.code y cc maxL ret :: TB) (rmd d) (va_Pc as (fun U => Rp E h U.heap ∧ Stt E U)) (Qm E r h') 0 0 (AD E)
/-- where one stands: all that stays the same in a method's walk -/
abbrev Fx : Type := Program × Env × Room × State × MethodId × Array Value × List Frame × Method × Code × (Nat × Nat) × (State → Prop) × Nat
def GG (l : Launch) (E : Ep) (X : Fx) (h : Hp) (pc : Nat) (lv : List (Nat × Value)) (st : List Value) : Prop := match X with
  | (p, e, R, s, m, args, below, meth, c, (cells, slots), Q, nL) => ∀ (H : Heap) (locs : List Loc) (ls : Array Slot), Rp E h H → va_S (AD E) s.heap H locs → lv_has ls nL lv → W p l e R s m args below meth c H locs cells slots Q (F0 m pc ls st)
def CX (E : Ep) (X : Fx) (own : String) (cc : ByteArray) (nL d : Nat) : Prop := match X with
  | (p, e, R, s, m, args, below, meth, c, (cells, slots), Q, nL') => nL' = nL ∧ p.tables.exec = Jvm.exec ∧ c.code = cc ∧ c.maxLocals = nL ∧ s.vm.findClass own = some m.cls ∧ (∀ w ∈ TB, w.before args s = true) ∧ Stt E s ∧ cells ≤ R.cells ∧ slots ≤ R.slots ∧ d ≤ R.frames ∧ 40 * d ≤ R.locals
def RT (E : Ep) (X : Fx) (ret : Option FieldType) (r : Option Value) (h' : Hp) : Prop := match X with
  | (p, e, R, s, m, args, below, meth, c, (cells, slots), Q, nL') => Q = MQ below (Qm E r h') args s cells slots (AD E) ∧ meth.sig.returnType = ret ∧ meth.locks = false
theorem MG.of {l : Launch} {E : Ep} {y : MethodName} {cc : ByteArray} {maxL d : Nat} {ret : Option FieldType} {as : List Value} {h h' : Hp} {r : Option Value} (hy : plainName y.cls = true) (ha : (lg_sl as).length ≤ maxL)
    (body : ∀ X : Fx, CX E X y.cls cc maxL d → RT E X ret r h' → GG l E X h 0 (lv_args 0 as) []) : MG l E y cc maxL ret d as h r h' := by
  refine Met.ofW (cc := cc) (maxL := maxL) (ret := ret) hy rfl ?_
  intro p e s m args below meth c s₁ B hml hv
  obtain ⟨rfl, hP, hS⟩ := hv
  have hts := atoms_spec (ws := Cond.code y cc maxL ret :: TB) B.pre
  have hl := lv_entry as (n := maxL) ha
  rw [lg_entry_eq]
  exact body (p, e, rmd d, s, m, as.toArray, below, meth, c, (0, 0), MQ below (Qm E r h') as.toArray s 0 0 (AD E), maxL) ⟨rfl, B.exec, B.bytes, hml, findClass_of_methodNamed B.named, fun w hw => hts w (List.mem_cons_of_mem _ hw), hS, Nat.zero_le _, Nat.zero_le _, Nat.le_refl _, Nat.le_refl _⟩ ⟨rfl, B.returns, B.notSynchronized⟩ s.heap [] _ hP va_S.rf hl
/-- what the tables say of a method that is called -/
def MWv (y : MethodName) (cc : ByteArray) (maxL : Nat) (ret : Option FieldType) (n : Nat) : Prop := Cond.instanceMethod y ∈ TB ∧ Cond.selects y.cls y y ∈ TB ∧ Cond.code y cc maxL ret ∈ TB ∧ Cond.initialized y.cls ∈ TB ∧ (y.cls ≠ "java/lang/invoke/MethodHandle" ∧ y.cls ≠ "java/lang/invoke/VarHandle") ∧ (parseMethodDescriptor y.desc).map (fun d => d.parameters.length) = some n ∧ maxL ≤ 21
def MWs (y : MethodName) (cc : ByteArray) (maxL : Nat) (ret : Option FieldType) (n : Nat) : Prop := Cond.static y ∈ TB ∧ Cond.code y cc maxL ret ∈ TB ∧ Cond.initialized y.cls ∈ TB ∧ (y.cls ≠ "java/lang/invoke/MethodHandle" ∧ y.cls ≠ "java/lang/invoke/VarHandle") ∧ (parseMethodDescriptor y.desc).map (fun d => d.parameters.length) = some n ∧ maxL ≤ 21
theorem good_code {y : MethodName} {cc : ByteArray} {maxL : Nat} {ret : Option FieldType} (hc : Cond.code y cc maxL ret ∈ TB) : GoodIn TB (Cond.code y cc maxL ret :: TB) := by
  intro w hw
  rcases List.mem_cons.mp hw with rfl | hw
  · exact ⟨hc, tb_good hc⟩
  · exact ⟨hw, tb_good hw⟩
theorem mg_blind {E : Ep} {h : Hp} {as : List Value} : FrameBlind (va_Pc as (fun U => Rp E h U.heap ∧ Stt E U)) := fun a U g mk q => ⟨q.1, q.2.1, q.2.2.calling⟩
section GR
variable {l : Launch} {E : Ep} {X : Fx} {own : String} {cc : ByteArray} {nL d : Nat} {h h1 : Hp} {pc : Nat} {lv lv' : List (Nat × Value)} {st rest : List Value}
/-- behind a call -/
theorem g_after {p : Program} {e : Env} {R : Room} {s : State} {m : MethodId} {args : Array Value} {below : List Frame} {meth : Method} {c : Code} {cells slots : Nat} {Q : State → Prop} {H : Heap} {locs : List Loc} {g : JFrame} {r : Option Value} {a : Array Value}
    (hr : va_Run p l e R s m args below meth c H locs cells slots 0 0 g rest (Qm E r h1 a) (AD E)) (hS : va_S (AD E) s.heap H locs)
    (kk : ∀ (H1 : Heap) (locs1 : List Loc), Rp E h1 H1 → va_S (AD E) s.heap H1 locs1 → W p l e R s m args below meth c H1 locs1 cells slots Q { g with pc := g.pc + 3, stack := r.toList ++ rest }) : W p l e R s m args below meth c H locs cells slots Q g := by
  intro T hT X
  obtain ⟨v, st₀, t, T', L, h0, X', hL, e1, e2, ⟨hv, hp, hz, hk⟩, st⟩ := hr T hT X
  cases hv
  rw [h0] at hz hk
  obtain ⟨t2, a1, b1⟩ := kk T'.heap (locs ++ L) (by rw [e1]; exact hp)
    ⟨Nat.le_trans hS.1 (by rw [e1]; exact hz), fun q h1 h2 => by rw [e1, hk q (Nat.lt_of_lt_of_le h1 hS.1) h2]; exact hS.2.1 q h1 h2, fun q hq => by
      rcases List.mem_append.mp hq with h | h
      · exact hS.2.2 q h
      · exact hL q h⟩ T' rfl X'
  exact ⟨t2, st t2 a1, b1⟩
theorem g_cV (C : CX E X own cc nL d) {y : MethodName} {cd : ByteArray} {mL d' n idx b ci : Nat} {ty : Option FieldType} {As : List Value} {r : Option Value} {T : u_T} {N : Nat} (hM : MG l E y cd mL ty d' (.ref (ad E b) :: As) h r h1) (hm : MWv y cd mL ty n) (hl : Cond.methodLink own idx y ∈ TB) (hb : OKr b ci) (hcl : vwCl[ci]? = some (y.cls, T, N)) {fs : List Value} (hce : cel E h b = .inr (ci, fs)) (hn : As.length = n) (hd : d' + 1 ≤ d)
    (hst : st = As.reverse ++ .ref (ad E b) :: rest) (hc : (rest.map fun v => v.category).sum ≤ 8) (hdg : decode cc pc = .ok (.invokevirtual idx, 3)) {st2 : List Value} (hr : r.toList ++ rest = st2) (k : GG l E X h1 (pc + 3) lv st2) : GG l E X h pc lv st := by
  obtain ⟨p, e, R, s, m, args, below, meth, c, ⟨cells, slots⟩, Q, nL'⟩ := X
  obtain ⟨rfl, hx, hbc, hml, hown, hts, hSt, hc1, hc2, hf, hlo⟩ := C
  obtain ⟨m1, m2, m3, m4, m5, m6, m7⟩ := hm
  subst hst
  subst hr
  intro H locs ls hP hS hl0
  have hK0 := hSt.1
  refine g_after (va_runV (As := As) (rest := rest) (cc := cc) (nL := nL') (own := own) (C := y.cls) (index := idx) (bytes := cd) (maxL := mL) (ret := ty) (n := n) (Ts := TB) ⟨hx, hbc, hml, hown, hts⟩ hM
    ⟨callB_of n hts (good_code m3) rfl rfl rfl (hts _ m4) (hts _ hl) ⟨m5.1, m5.2, m6⟩ ⟨by show d' + 1 ≤ R.frames; omega, by show 8 + (mL + 11) + 40 * d' ≤ R.locals; omega⟩, hts _ m1, hts _ m2⟩
    ⟨mg_blind, va_recv hK0 hP hcl (q0 := b) (by rw [wsH_at E h hb.1, hce]), fun U hU hW => ⟨rfl, by rw [hU]; exact hP, hSt.moved hW (fun a h1 h2 => by rw [hU]; exact hS.2.1 a h1 h2)⟩⟩
    rfl hn hl0.1 rfl (lv_room hc) hdg ⟨hc1, hc2⟩) hS (fun H1 locs1 hP1 hS1 => k H1 locs1 ls hP1 hS1 hl0)
theorem g_cVN (C : CX E X own cc nL d) {y : MethodName} {cd : ByteArray} {mL d' n idx b ci : Nat} {ty : Option FieldType} {As : List Value} {r : Option Value} {T : u_T} {N : Nat} {host : String} (hM : MG l E y cd mL ty d' (.ref (ad E b) :: As) h r h1) (hm : MWv y cd mL ty n) (hl : Cond.methodLinkNest own idx y host ∈ NWL) (hb : OKr b ci) (hcl : vwCl[ci]? = some (y.cls, T, N)) {fs : List Value} (hce : cel E h b = .inr (ci, fs)) (hn : As.length = n) (hd : d' + 1 ≤ d)
    (hst : st = As.reverse ++ .ref (ad E b) :: rest) (hc : (rest.map fun v => v.category).sum ≤ 8) (hdg : decode cc pc = .ok (.invokevirtual idx, 3)) {st2 : List Value} (hr : r.toList ++ rest = st2) (k : GG l E X h1 (pc + 3) lv st2) : GG l E X h pc lv st := by
  obtain ⟨p, e, R, s, m, args, below, meth, c, ⟨cells, slots⟩, Q, nL'⟩ := X
  obtain ⟨rfl, hx, hbc, hml, hown, hts, hSt, hc1, hc2, hf, hlo⟩ := C
  obtain ⟨m1, m2, m3, m4, m5, m6, m7⟩ := hm
  subst hst
  subst hr
  intro H locs ls hP hS hl0
  have hK0 := hSt.1
  refine g_after (va_runVN (As := As) (rest := rest) (cc := cc) (nL := nL') (own := own) (C := y.cls) (host := host) (index := idx) (bytes := cd) (maxL := mL) (ret := ty) (n := n) (Ts := TB) ⟨hx, hbc, hml, hown, hts⟩ hM
    ⟨va_cnB n hts (good_code m3) rfl rfl rfl (hSt.2.2.2.2.1 _ hl) (hts _ m4) ⟨m5.1, m5.2, m6⟩ ⟨by show d' + 1 ≤ R.frames; omega, by show 8 + (mL + 11) + 40 * d' ≤ R.locals; omega⟩, hts _ m1, hts _ m2⟩
    ⟨mg_blind, va_recv hK0 hP hcl (q0 := b) (by rw [wsH_at E h hb.1, hce]), fun U hU hW => ⟨rfl, by rw [hU]; exact hP, hSt.moved hW (fun a h1 h2 => by rw [hU]; exact hS.2.1 a h1 h2)⟩⟩
    rfl hn hl0.1 rfl (lv_room hc) hdg ⟨hc1, hc2⟩) hS (fun H1 locs1 hP1 hS1 => k H1 locs1 ls hP1 hS1 hl0)
theorem g_cS (C : CX E X own cc nL d) {y : MethodName} {cd : ByteArray} {mL d' n idx : Nat} {ty : Option FieldType} {As : List Value} {r : Option Value} (hM : MG l E y cd mL ty d' As h r h1) (hm : MWs y cd mL ty n) (hl : Cond.methodLink own idx y ∈ TB) (hn : As.length = n) (hd : d' + 1 ≤ d)
    (hst : st = As.reverse ++ rest) (hc : (rest.map fun v => v.category).sum ≤ 8) (hdg : decode cc pc = .ok (.invokestatic idx, 3)) {st2 : List Value} (hr : r.toList ++ rest = st2) (k : GG l E X h1 (pc + 3) lv st2) : GG l E X h pc lv st := by
  obtain ⟨p, e, R, s, m, args, below, meth, c, ⟨cells, slots⟩, Q, nL'⟩ := X
  obtain ⟨rfl, hx, hbc, hml, hown, hts, hSt, hc1, hc2, hf, hlo⟩ := C
  obtain ⟨m1, m3, m4, m5, m6, m7⟩ := hm
  subst hst
  subst hr
  intro H locs ls hP hS hl0
  refine g_after (va_runS (As := As) (rest := rest) (cc := cc) (nL := nL') (own := own) (index := idx) (bytes := cd) (maxL := mL) (ret := ty) (n := n) (Ts := TB) ⟨hx, hbc, hml, hown, hts⟩ hM
    ⟨callB_of n hts (good_code m3) rfl rfl rfl (hts _ m4) (hts _ hl) ⟨m5.1, m5.2, m6⟩ ⟨by show d' + 1 ≤ R.frames; omega, by show 8 + (mL + 11) + 40 * d' ≤ R.locals; omega⟩, hts _ m1⟩
    ⟨mg_blind, fun U hU hW => ⟨rfl, by rw [hU]; exact hP, hSt.moved hW (fun a h1 h2 => by rw [hU]; exact hS.2.1 a h1 h2)⟩⟩
    rfl hn hl0.1 rfl (lv_room hc) hdg ⟨hc1, hc2⟩) hS (fun H1 locs1 hP1 hS1 => k H1 locs1 ls hP1 hS1 hl0)
theorem g_cSN (C : CX E X own cc nL d) {y : MethodName} {cd : ByteArray} {mL d' n idx : Nat} {ty : Option FieldType} {As : List Value} {r : Option Value} {host : String} (hM : MG l E y cd mL ty d' As h r h1) (hm : MWs y cd mL ty n) (hl : Cond.methodLinkNest own idx y host ∈ NWL) (hn : As.length = n) (hd : d' + 1 ≤ d)
    (hst : st = As.reverse ++ rest) (hc : (rest.map fun v => v.category).sum ≤ 8) (hdg : decode cc pc = .ok (.invokestatic idx, 3)) {st2 : List Value} (hr : r.toList ++ rest = st2) (k : GG l E X h1 (pc + 3) lv st2) : GG l E X h pc lv st := by
  obtain ⟨p, e, R, s, m, args, below, meth, c, ⟨cells, slots⟩, Q, nL'⟩ := X
  obtain ⟨rfl, hx, hbc, hml, hown, hts, hSt, hc1, hc2, hf, hlo⟩ := C
  obtain ⟨m1, m3, m4, m5, m6, m7⟩ := hm
  subst hst
  subst hr
  intro H locs ls hP hS hl0
  refine g_after (va_runSN (As := As) (rest := rest) (cc := cc) (nL := nL') (own := own) (host := host) (index := idx) (bytes := cd) (maxL := mL) (ret := ty) (n := n) (Ts := TB) ⟨hx, hbc, hml, hown, hts⟩ hM
    ⟨va_cnB n hts (good_code m3) rfl rfl rfl (hSt.2.2.2.2.1 _ hl) (hts _ m4) ⟨m5.1, m5.2, m6⟩ ⟨by show d' + 1 ≤ R.frames; omega, by show 8 + (mL + 11) + 40 * d' ≤ R.locals; omega⟩, hts _ m1, trivial⟩
    ⟨mg_blind, fun U hU hW => ⟨rfl, by rw [hU]; exact hP, hSt.moved hW (fun a h1 h2 => by rw [hU]; exact hS.2.1 a h1 h2)⟩⟩
    rfl hn hl0.1 rfl (lv_room hc) hdg ⟨hc1, hc2⟩) hS (fun H1 locs1 hP1 hS1 => k H1 locs1 ls hP1 hS1 hl0)
end GR

section GQ
variable {l : Launch} {E : Ep} {X : Fx} {own : String} {cc : ByteArray} {nL d : Nat} {h h1 : Hp} {pc : Nat} {lv lv' : List (Nat × Value)} {st rest : List Value} {ρ : Type} {res : ρ}
theorem g_iconst (C : CX E X own cc nL d) {n : Int} {v : Int32} (hdg : decode cc pc = .ok (.iconst n, 1)) (hv : Int32.ofInt n = v) (k : GG l E X h (pc + 1) lv (.int v :: st)) : GG l E X h pc lv (st) := by
  obtain ⟨p, e, R, s, m, args, below, meth, c, ⟨cells, slots⟩, Q, nL'⟩ := X
  obtain ⟨rfl, hx, hbc, hml, hown, hts, hSt, hc1, hc2, hf, hlo⟩ := C
  exact fun H locs ls hP hS hl => lv_iconst hx hbc hdg hv (k H locs ls hP hS hl)
theorem g_bipush (C : CX E X own cc nL d) {n : Int} {v : Int32} (hdg : decode cc pc = .ok (.bipush n, 2)) (hv : (Int8.ofInt n).toInt32 = v) (k : GG l E X h (pc + 2) lv (.int v :: st)) : GG l E X h pc lv (st) := by
  obtain ⟨p, e, R, s, m, args, below, meth, c, ⟨cells, slots⟩, Q, nL'⟩ := X
  obtain ⟨rfl, hx, hbc, hml, hown, hts, hSt, hc1, hc2, hf, hlo⟩ := C
  exact fun H locs ls hP hS hl => lv_bipush hx hbc hdg hv (k H locs ls hP hS hl)
theorem g_sipush (C : CX E X own cc nL d) {n : Int} {v : Int32} (hdg : decode cc pc = .ok (.sipush n, 3)) (hv : (Int16.ofInt n).toInt32 = v) (k : GG l E X h (pc + 3) lv (.int v :: st)) : GG l E X h pc lv (st) := by
  obtain ⟨p, e, R, s, m, args, below, meth, c, ⟨cells, slots⟩, Q, nL'⟩ := X
  obtain ⟨rfl, hx, hbc, hml, hown, hts, hSt, hc1, hc2, hf, hlo⟩ := C
  exact fun H locs ls hP hS hl => lv_sipush hx hbc hdg hv (k H locs ls hP hS hl)
theorem g_lconst (C : CX E X own cc nL d) {n : Fin 2} {v : Int64} (hdg : decode cc pc = .ok (.lconst n, 1)) (hv : Int64.ofNat (n : Nat) = v) (k : GG l E X h (pc + 1) lv (.long v :: st)) : GG l E X h pc lv (st) := by
  obtain ⟨p, e, R, s, m, args, below, meth, c, ⟨cells, slots⟩, Q, nL'⟩ := X
  obtain ⟨rfl, hx, hbc, hml, hown, hts, hSt, hc1, hc2, hf, hlo⟩ := C
  exact fun H locs ls hP hS hl => lv_lconst hx hbc hdg hv (k H locs ls hP hS hl)
theorem g_ldc (C : CX E X own cc nL d) {i : Nat} {v : Int32} (hdg : decode cc pc = .ok (.ldc i, 2)) (hw : Cond.constant own i v ∈ TB) (k : GG l E X h (pc + 2) lv (.int v :: st)) : GG l E X h pc lv (st) := by
  obtain ⟨p, e, R, s, m, args, below, meth, c, ⟨cells, slots⟩, Q, nL'⟩ := X
  obtain ⟨rfl, hx, hbc, hml, hown, hts, hSt, hc1, hc2, hf, hlo⟩ := C
  exact fun H locs ls hP hS hl => lv_ldc hx hbc hown (hts _ hw) hdg (k H locs ls hP hS hl)
theorem g_ldcw (C : CX E X own cc nL d) {i : Nat} {v : Int32} (hdg : decode cc pc = .ok (.ldc_w i, 3)) (hw : Cond.constant own i v ∈ TB) (k : GG l E X h (pc + 3) lv (.int v :: st)) : GG l E X h pc lv (st) := by
  obtain ⟨p, e, R, s, m, args, below, meth, c, ⟨cells, slots⟩, Q, nL'⟩ := X
  obtain ⟨rfl, hx, hbc, hml, hown, hts, hSt, hc1, hc2, hf, hlo⟩ := C
  exact fun H locs ls hP hS hl => lv_ldcw hx hbc hown (hts _ hw) hdg (k H locs ls hP hS hl)
theorem g_ldc2 (C : CX E X own cc nL d) {i : Nat} {v : Int64} (hdg : decode cc pc = .ok (.ldc2_w i, 3)) (hw : Cond.constantLong own i v ∈ TB) (k : GG l E X h (pc + 3) lv (.long v :: st)) : GG l E X h pc lv (st) := by
  obtain ⟨p, e, R, s, m, args, below, meth, c, ⟨cells, slots⟩, Q, nL'⟩ := X
  obtain ⟨rfl, hx, hbc, hml, hown, hts, hSt, hc1, hc2, hf, hlo⟩ := C
  exact fun H locs ls hP hS hl => lv_ldc2 hx hbc hown (hts _ hw) hdg (k H locs ls hP hS hl)
theorem g_iload_n (C : CX E X own cc nL d) {q : Fin 4} {i : Nat} {x : Int32} (j : Nat) (hdg : decode cc pc = .ok (.iload_n q, 1)) (hi : (q : Nat) = i) (hj : lv[j]? = some (i, .int x)) (k : GG l E X h (pc + 1) lv (.int x :: st)) : GG l E X h pc lv (st) := by
  obtain ⟨p, e, R, s, m, args, below, meth, c, ⟨cells, slots⟩, Q, nL'⟩ := X
  obtain ⟨rfl, hx, hbc, hml, hown, hts, hSt, hc1, hc2, hf, hlo⟩ := C
  exact fun H locs ls hP hS hl => lv_iload_n hx hbc hdg hi (lv_at hl j hj) (k H locs ls hP hS hl)
theorem g_iload (C : CX E X own cc nL d) {i : Nat} {x : Int32} (j : Nat) (hdg : decode cc pc = .ok (.iload i, 2)) (hj : lv[j]? = some (i, .int x)) (k : GG l E X h (pc + 2) lv (.int x :: st)) : GG l E X h pc lv (st) := by
  obtain ⟨p, e, R, s, m, args, below, meth, c, ⟨cells, slots⟩, Q, nL'⟩ := X
  obtain ⟨rfl, hx, hbc, hml, hown, hts, hSt, hc1, hc2, hf, hlo⟩ := C
  exact fun H locs ls hP hS hl => lv_iload hx hbc hdg (lv_at hl j hj) (k H locs ls hP hS hl)
theorem g_istore_n (C : CX E X own cc nL d) {q : Fin 4} {i : Nat} {x : Int32} (hdg : decode cc pc = .ok (.istore_n q, 1)) (hi : (q : Nat) = i) (hn : i < nL) (hlv : (i, Value.int x) :: lv.filter (fun q => !(q.1 == i) && !(q.1 + 1 == i && q.2.category == 2)) = lv') (k : GG l E X h (pc + 1) lv' st) : GG l E X h pc lv (.int x :: st) := by
  obtain ⟨p, e, R, s, m, args, below, meth, c, ⟨cells, slots⟩, Q, nL'⟩ := X
  obtain ⟨rfl, hx, hbc, hml, hown, hts, hSt, hc1, hc2, hf, hlo⟩ := C
  exact fun H locs ls hP hS hl => lv_istore_n hx hbc hdg hi hl hn hlv (fun ls' hl' => k H locs ls' hP hS hl')
theorem g_istore (C : CX E X own cc nL d) {i : Nat} {x : Int32} (hdg : decode cc pc = .ok (.istore i, 2)) (hn : i < nL) (hlv : (i, Value.int x) :: lv.filter (fun q => !(q.1 == i) && !(q.1 + 1 == i && q.2.category == 2)) = lv') (k : GG l E X h (pc + 2) lv' st) : GG l E X h pc lv (.int x :: st) := by
  obtain ⟨p, e, R, s, m, args, below, meth, c, ⟨cells, slots⟩, Q, nL'⟩ := X
  obtain ⟨rfl, hx, hbc, hml, hown, hts, hSt, hc1, hc2, hf, hlo⟩ := C
  exact fun H locs ls hP hS hl => lv_istore hx hbc hdg hl hn hlv (fun ls' hl' => k H locs ls' hP hS hl')
theorem g_lload_n (C : CX E X own cc nL d) {q : Fin 4} {i : Nat} {x : Int64} (j : Nat) (hdg : decode cc pc = .ok (.lload_n q, 1)) (hi : (q : Nat) = i) (hj : lv[j]? = some (i, .long x)) (k : GG l E X h (pc + 1) lv (.long x :: st)) : GG l E X h pc lv (st) := by
  obtain ⟨p, e, R, s, m, args, below, meth, c, ⟨cells, slots⟩, Q, nL'⟩ := X
  obtain ⟨rfl, hx, hbc, hml, hown, hts, hSt, hc1, hc2, hf, hlo⟩ := C
  exact fun H locs ls hP hS hl => lv_lload_n hx hbc hdg hi (lv_at hl j hj) (k H locs ls hP hS hl)
theorem g_lload (C : CX E X own cc nL d) {i : Nat} {x : Int64} (j : Nat) (hdg : decode cc pc = .ok (.lload i, 2)) (hj : lv[j]? = some (i, .long x)) (k : GG l E X h (pc + 2) lv (.long x :: st)) : GG l E X h pc lv (st) := by
  obtain ⟨p, e, R, s, m, args, below, meth, c, ⟨cells, slots⟩, Q, nL'⟩ := X
  obtain ⟨rfl, hx, hbc, hml, hown, hts, hSt, hc1, hc2, hf, hlo⟩ := C
  exact fun H locs ls hP hS hl => lv_lload hx hbc hdg (lv_at hl j hj) (k H locs ls hP hS hl)
theorem g_lstore_n (C : CX E X own cc nL d) {q : Fin 4} {i : Nat} {x : Int64} (hdg : decode cc pc = .ok (.lstore_n q, 1)) (hi : (q : Nat) = i) (hn : i + 1 < nL) (hlv : (i, Value.long x) :: lv.filter (fun q => !(q.1 == i) && (!(q.1 == i + 1) && !(q.1 + 1 == i && q.2.category == 2))) = lv') (k : GG l E X h (pc + 1) lv' st) : GG l E X h pc lv (.long x :: st) := by
  obtain ⟨p, e, R, s, m, args, below, meth, c, ⟨cells, slots⟩, Q, nL'⟩ := X
  obtain ⟨rfl, hx, hbc, hml, hown, hts, hSt, hc1, hc2, hf, hlo⟩ := C
  exact fun H locs ls hP hS hl => lv_lstore_n hx hbc hdg hi hl hn hlv (fun ls' hl' => k H locs ls' hP hS hl')
theorem g_lstore (C : CX E X own cc nL d) {i : Nat} {x : Int64} (hdg : decode cc pc = .ok (.lstore i, 2)) (hn : i + 1 < nL) (hlv : (i, Value.long x) :: lv.filter (fun q => !(q.1 == i) && (!(q.1 == i + 1) && !(q.1 + 1 == i && q.2.category == 2))) = lv') (k : GG l E X h (pc + 2) lv' st) : GG l E X h pc lv (.long x :: st) := by
  obtain ⟨p, e, R, s, m, args, below, meth, c, ⟨cells, slots⟩, Q, nL'⟩ := X
  obtain ⟨rfl, hx, hbc, hml, hown, hts, hSt, hc1, hc2, hf, hlo⟩ := C
  exact fun H locs ls hP hS hl => lv_lstore hx hbc hdg hl hn hlv (fun ls' hl' => k H locs ls' hP hS hl')
theorem g_aload_n (C : CX E X own cc nL d) {q : Fin 4} {i : Nat} {x : Nat} (j : Nat) (hdg : decode cc pc = .ok (.aload_n q, 1)) (hi : (q : Nat) = i) (hj : lv[j]? = some (i, .ref x)) (k : GG l E X h (pc + 1) lv (.ref x :: st)) : GG l E X h pc lv (st) := by
  obtain ⟨p, e, R, s, m, args, below, meth, c, ⟨cells, slots⟩, Q, nL'⟩ := X
  obtain ⟨rfl, hx, hbc, hml, hown, hts, hSt, hc1, hc2, hf, hlo⟩ := C
  exact fun H locs ls hP hS hl => lv_aload_n hx hbc hdg hi (lv_at hl j hj) (k H locs ls hP hS hl)
theorem g_aload (C : CX E X own cc nL d) {i : Nat} {x : Nat} (j : Nat) (hdg : decode cc pc = .ok (.aload i, 2)) (hj : lv[j]? = some (i, .ref x)) (k : GG l E X h (pc + 2) lv (.ref x :: st)) : GG l E X h pc lv (st) := by
  obtain ⟨p, e, R, s, m, args, below, meth, c, ⟨cells, slots⟩, Q, nL'⟩ := X
  obtain ⟨rfl, hx, hbc, hml, hown, hts, hSt, hc1, hc2, hf, hlo⟩ := C
  exact fun H locs ls hP hS hl => lv_aload hx hbc hdg (lv_at hl j hj) (k H locs ls hP hS hl)
theorem g_astore_n (C : CX E X own cc nL d) {q : Fin 4} {i : Nat} {x : Nat} (hdg : decode cc pc = .ok (.astore_n q, 1)) (hi : (q : Nat) = i) (hn : i < nL) (hlv : (i, Value.ref x) :: lv.filter (fun q => !(q.1 == i) && !(q.1 + 1 == i && q.2.category == 2)) = lv') (k : GG l E X h (pc + 1) lv' st) : GG l E X h pc lv (.ref x :: st) := by
  obtain ⟨p, e, R, s, m, args, below, meth, c, ⟨cells, slots⟩, Q, nL'⟩ := X
  obtain ⟨rfl, hx, hbc, hml, hown, hts, hSt, hc1, hc2, hf, hlo⟩ := C
  exact fun H locs ls hP hS hl => lv_astore_n hx hbc hdg hi hl hn hlv (fun ls' hl' => k H locs ls' hP hS hl')
theorem g_astore (C : CX E X own cc nL d) {i : Nat} {x : Nat} (hdg : decode cc pc = .ok (.astore i, 2)) (hn : i < nL) (hlv : (i, Value.ref x) :: lv.filter (fun q => !(q.1 == i) && !(q.1 + 1 == i && q.2.category == 2)) = lv') (k : GG l E X h (pc + 2) lv' st) : GG l E X h pc lv (.ref x :: st) := by
  obtain ⟨p, e, R, s, m, args, below, meth, c, ⟨cells, slots⟩, Q, nL'⟩ := X
  obtain ⟨rfl, hx, hbc, hml, hown, hts, hSt, hc1, hc2, hf, hlo⟩ := C
  exact fun H locs ls hP hS hl => lv_astore hx hbc hdg hl hn hlv (fun ls' hl' => k H locs ls' hP hS hl')
theorem g_iinc (C : CX E X own cc nL d) {i j : Nat} {n : Int} {x v : Int32} (hdg : decode cc pc = .ok (.iinc i n, 3)) (hk : lv[j]? = some (i, .int x)) (hv : x + Int32.ofInt n = v) (hn : i < nL) (hlv : (i, Value.int v) :: lv.filter (fun q => !(q.1 == i) && !(q.1 + 1 == i && q.2.category == 2)) = lv') (k : GG l E X h (pc + 3) lv' st) : GG l E X h pc lv st := by
  obtain ⟨p, e, R, s, m, args, below, meth, c, ⟨cells, slots⟩, Q, nL'⟩ := X
  obtain ⟨rfl, hx, hbc, hml, hown, hts, hSt, hc1, hc2, hf, hlo⟩ := C
  exact fun H locs ls hP hS hl => lv_iinc hx hbc hdg hl (k := j) hk hv hn hlv (fun ls' hl' => k H locs ls' hP hS hl')
theorem g_iadd (C : CX E X own cc nL d) {x y : Int32} (hdg : decode cc pc = .ok (.iadd, 1)) (k : GG l E X h (pc + 1) lv (.int (x + y) :: st)) : GG l E X h pc lv (.int y :: .int x :: st) := by
  obtain ⟨p, e, R, s, m, args, below, meth, c, ⟨cells, slots⟩, Q, nL'⟩ := X
  obtain ⟨rfl, hx, hbc, hml, hown, hts, hSt, hc1, hc2, hf, hlo⟩ := C
  exact fun H locs ls hP hS hl => lv_iadd hx hbc hdg (k H locs ls hP hS hl)
theorem g_isub (C : CX E X own cc nL d) {x y : Int32} (hdg : decode cc pc = .ok (.isub, 1)) (k : GG l E X h (pc + 1) lv (.int (x - y) :: st)) : GG l E X h pc lv (.int y :: .int x :: st) := by
  obtain ⟨p, e, R, s, m, args, below, meth, c, ⟨cells, slots⟩, Q, nL'⟩ := X
  obtain ⟨rfl, hx, hbc, hml, hown, hts, hSt, hc1, hc2, hf, hlo⟩ := C
  exact fun H locs ls hP hS hl => lv_isub hx hbc hdg (k H locs ls hP hS hl)
theorem g_imul (C : CX E X own cc nL d) {x y : Int32} (hdg : decode cc pc = .ok (.imul, 1)) (k : GG l E X h (pc + 1) lv (.int (x * y) :: st)) : GG l E X h pc lv (.int y :: .int x :: st) := by
  obtain ⟨p, e, R, s, m, args, below, meth, c, ⟨cells, slots⟩, Q, nL'⟩ := X
  obtain ⟨rfl, hx, hbc, hml, hown, hts, hSt, hc1, hc2, hf, hlo⟩ := C
  exact fun H locs ls hP hS hl => lv_imul hx hbc hdg (k H locs ls hP hS hl)
theorem g_iand (C : CX E X own cc nL d) {x y : Int32} (hdg : decode cc pc = .ok (.iand, 1)) (k : GG l E X h (pc + 1) lv (.int (x &&& y) :: st)) : GG l E X h pc lv (.int y :: .int x :: st) := by
  obtain ⟨p, e, R, s, m, args, below, meth, c, ⟨cells, slots⟩, Q, nL'⟩ := X
  obtain ⟨rfl, hx, hbc, hml, hown, hts, hSt, hc1, hc2, hf, hlo⟩ := C
  exact fun H locs ls hP hS hl => lv_iand hx hbc hdg (k H locs ls hP hS hl)
theorem g_ior (C : CX E X own cc nL d) {x y : Int32} (hdg : decode cc pc = .ok (.ior, 1)) (k : GG l E X h (pc + 1) lv (.int (x ||| y) :: st)) : GG l E X h pc lv (.int y :: .int x :: st) := by
  obtain ⟨p, e, R, s, m, args, below, meth, c, ⟨cells, slots⟩, Q, nL'⟩ := X
  obtain ⟨rfl, hx, hbc, hml, hown, hts, hSt, hc1, hc2, hf, hlo⟩ := C
  exact fun H locs ls hP hS hl => lv_ior hx hbc hdg (k H locs ls hP hS hl)
theorem g_ishl (C : CX E X own cc nL d) {x y : Int32} (hdg : decode cc pc = .ok (.ishl, 1)) (k : GG l E X h (pc + 1) lv (.int (x <<< (y &&& 31)) :: st)) : GG l E X h pc lv (.int y :: .int x :: st) := by
  obtain ⟨p, e, R, s, m, args, below, meth, c, ⟨cells, slots⟩, Q, nL'⟩ := X
  obtain ⟨rfl, hx, hbc, hml, hown, hts, hSt, hc1, hc2, hf, hlo⟩ := C
  exact fun H locs ls hP hS hl => lv_ishl hx hbc hdg (k H locs ls hP hS hl)
theorem g_ishr (C : CX E X own cc nL d) {x y : Int32} (hdg : decode cc pc = .ok (.ishr, 1)) (k : GG l E X h (pc + 1) lv (.int (x >>> (y &&& 31)) :: st)) : GG l E X h pc lv (.int y :: .int x :: st) := by
  obtain ⟨p, e, R, s, m, args, below, meth, c, ⟨cells, slots⟩, Q, nL'⟩ := X
  obtain ⟨rfl, hx, hbc, hml, hown, hts, hSt, hc1, hc2, hf, hlo⟩ := C
  exact fun H locs ls hP hS hl => lv_ishr hx hbc hdg (k H locs ls hP hS hl)
theorem g_ineg (C : CX E X own cc nL d) {x : Int32} (hdg : decode cc pc = .ok (.ineg, 1)) (k : GG l E X h (pc + 1) lv (.int (-x) :: st)) : GG l E X h pc lv (.int x :: st) := by
  obtain ⟨p, e, R, s, m, args, below, meth, c, ⟨cells, slots⟩, Q, nL'⟩ := X
  obtain ⟨rfl, hx, hbc, hml, hown, hts, hSt, hc1, hc2, hf, hlo⟩ := C
  exact fun H locs ls hP hS hl => lv_ineg hx hbc hdg (k H locs ls hP hS hl)
theorem g_land (C : CX E X own cc nL d) {x y : Int64} (hdg : decode cc pc = .ok (.land, 1)) (k : GG l E X h (pc + 1) lv (.long (x &&& y) :: st)) : GG l E X h pc lv (.long y :: .long x :: st) := by
  obtain ⟨p, e, R, s, m, args, below, meth, c, ⟨cells, slots⟩, Q, nL'⟩ := X
  obtain ⟨rfl, hx, hbc, hml, hown, hts, hSt, hc1, hc2, hf, hlo⟩ := C
  exact fun H locs ls hP hS hl => lv_land hx hbc hdg (k H locs ls hP hS hl)
theorem g_lor (C : CX E X own cc nL d) {x y : Int64} (hdg : decode cc pc = .ok (.lor, 1)) (k : GG l E X h (pc + 1) lv (.long (x ||| y) :: st)) : GG l E X h pc lv (.long y :: .long x :: st) := by
  obtain ⟨p, e, R, s, m, args, below, meth, c, ⟨cells, slots⟩, Q, nL'⟩ := X
  obtain ⟨rfl, hx, hbc, hml, hown, hts, hSt, hc1, hc2, hf, hlo⟩ := C
  exact fun H locs ls hP hS hl => lv_lor hx hbc hdg (k H locs ls hP hS hl)
theorem g_lshl (C : CX E X own cc nL d) {x : Int64} {y : Int32} (hdg : decode cc pc = .ok (.lshl, 1)) (k : GG l E X h (pc + 1) lv (.long (x <<< (y.toInt64 &&& 63)) :: st)) : GG l E X h pc lv (.int y :: .long x :: st) := by
  obtain ⟨p, e, R, s, m, args, below, meth, c, ⟨cells, slots⟩, Q, nL'⟩ := X
  obtain ⟨rfl, hx, hbc, hml, hown, hts, hSt, hc1, hc2, hf, hlo⟩ := C
  exact fun H locs ls hP hS hl => lv_lshl hx hbc hdg rfl (k H locs ls hP hS hl)
theorem g_i2l (C : CX E X own cc nL d) {x : Int32} (hdg : decode cc pc = .ok (.i2l, 1)) (k : GG l E X h (pc + 1) lv (.long x.toInt64 :: st)) : GG l E X h pc lv (.int x :: st) := by
  obtain ⟨p, e, R, s, m, args, below, meth, c, ⟨cells, slots⟩, Q, nL'⟩ := X
  obtain ⟨rfl, hx, hbc, hml, hown, hts, hSt, hc1, hc2, hf, hlo⟩ := C
  exact fun H locs ls hP hS hl => lv_i2l hx hbc hdg rfl (k H locs ls hP hS hl)
theorem g_lcmp (C : CX E X own cc nL d) {x y : Int64} (hdg : decode cc pc = .ok (.lcmp, 1)) (k : GG l E X h (pc + 1) lv (.int (lg_cmp x y) :: st)) : GG l E X h pc lv (.long y :: .long x :: st) := by
  obtain ⟨p, e, R, s, m, args, below, meth, c, ⟨cells, slots⟩, Q, nL'⟩ := X
  obtain ⟨rfl, hx, hbc, hml, hown, hts, hSt, hc1, hc2, hf, hlo⟩ := C
  exact fun H locs ls hP hS hl => W.lcmp hx hbc hdg (k H locs ls hP hS hl)
theorem g_idivC (C : CX E X own cc nL d) {x y : Int32} (hdg : decode cc pc = .ok (.idiv, 1)) (hne : ¬ y = 0) (k : GG l E X h (pc + 1) lv (.int (x / y) :: st)) : GG l E X h pc lv (.int y :: .int x :: st) := by
  obtain ⟨p, e, R, s, m, args, below, meth, c, ⟨cells, slots⟩, Q, nL'⟩ := X
  obtain ⟨rfl, hx, hbc, hml, hown, hts, hSt, hc1, hc2, hf, hlo⟩ := C
  exact fun H locs ls hP hS hl => lv_idiv hx hbc hdg hne (k H locs ls hP hS hl)
theorem g_iremC (C : CX E X own cc nL d) {x y : Int32} (hdg : decode cc pc = .ok (.irem, 1)) (hne : ¬ y = 0) (k : GG l E X h (pc + 1) lv (.int (x - x / y * y) :: st)) : GG l E X h pc lv (.int y :: .int x :: st) := by
  obtain ⟨p, e, R, s, m, args, below, meth, c, ⟨cells, slots⟩, Q, nL'⟩ := X
  obtain ⟨rfl, hx, hbc, hml, hown, hts, hSt, hc1, hc2, hf, hlo⟩ := C
  exact fun H locs ls hP hS hl => lv_irem hx hbc hdg hne (k H locs ls hP hS hl)
theorem g_dup (C : CX E X own cc nL d) {v : Value} (hdg : decode cc pc = .ok (.dup, 1)) (hc : v.category = 1) (k : GG l E X h (pc + 1) lv (v :: v :: st)) : GG l E X h pc lv (v :: st) := by
  obtain ⟨p, e, R, s, m, args, below, meth, c, ⟨cells, slots⟩, Q, nL'⟩ := X
  obtain ⟨rfl, hx, hbc, hml, hown, hts, hSt, hc1, hc2, hf, hlo⟩ := C
  exact fun H locs ls hP hS hl => lv_dup hx hbc hdg hc (k H locs ls hP hS hl)
theorem g_pop (C : CX E X own cc nL d) {v : Value} (hdg : decode cc pc = .ok (.pop, 1)) (hc : v.category = 1) (k : GG l E X h (pc + 1) lv (st)) : GG l E X h pc lv (v :: st) := by
  obtain ⟨p, e, R, s, m, args, below, meth, c, ⟨cells, slots⟩, Q, nL'⟩ := X
  obtain ⟨rfl, hx, hbc, hml, hown, hts, hSt, hc1, hc2, hf, hlo⟩ := C
  exact fun H locs ls hP hS hl => lv_pop hx hbc hdg hc (k H locs ls hP hS hl)
theorem g_dup2 (C : CX E X own cc nL d) {v w : Value} (hdg : decode cc pc = .ok (.dup2, 1)) (hc : v.category = 1) (hcw : w.category = 1) (k : GG l E X h (pc + 1) lv (v :: w :: v :: w :: st)) : GG l E X h pc lv (v :: w :: st) := by
  obtain ⟨p, e, R, s, m, args, below, meth, c, ⟨cells, slots⟩, Q, nL'⟩ := X
  obtain ⟨rfl, hx, hbc, hml, hown, hts, hSt, hc1, hc2, hf, hlo⟩ := C
  exact fun H locs ls hP hS hl => lv_dup2_11 hx hbc hdg hc hcw (k H locs ls hP hS hl)
theorem g_goto (C : CX E X own cc nL d) {off : Int} {tgt : Nat} (hdg : decode cc pc = .ok (.goto off, 3)) (ht : (pc : Int) + off = (tgt : Int)) (k : GG l E X h tgt lv st) : GG l E X h pc lv st := by
  obtain ⟨p, e, R, s, m, args, below, meth, c, ⟨cells, slots⟩, Q, nL'⟩ := X
  obtain ⟨rfl, hx, hbc, hml, hown, hts, hSt, hc1, hc2, hf, hlo⟩ := C
  exact fun H locs ls hP hS hl => lv_goto hx hbc hdg ht (k H locs ls hP hS hl)
theorem g_idiv (C : CX E X own cc nL d) {x y : Int32} {K : Int32 → Option ρ} (hdg : decode cc pc = .ok (.idiv, 1)) (hs : Option.bind (dvI x y) K = some res) (k : ∀ v, K v = some res → GG l E X h (pc + 1) lv (.int v :: st)) : GG l E X h pc lv (.int y :: .int x :: st) := by
  obtain ⟨v, hv, hk⟩ := bnd hs
  have k := k v hk
  obtain ⟨p, e, R, s, m, args, below, meth, c, ⟨cells, slots⟩, Q, nL'⟩ := X
  obtain ⟨rfl, hx, hbc, hml, hown, hts, hSt, hc1, hc2, hf, hlo⟩ := C
  unfold dvI at hv
  by_cases h0 : y = 0
  · rw [if_pos h0] at hv; cases hv
  · rw [if_neg h0] at hv; cases hv
    exact fun H locs ls hP hS hl => lv_idiv hx hbc hdg h0 (k H locs ls hP hS hl)
theorem g_irem (C : CX E X own cc nL d) {x y : Int32} {K : Int32 → Option ρ} (hdg : decode cc pc = .ok (.irem, 1)) (hs : Option.bind (rmI x y) K = some res) (k : ∀ v, K v = some res → GG l E X h (pc + 1) lv (.int v :: st)) : GG l E X h pc lv (.int y :: .int x :: st) := by
  obtain ⟨v, hv, hk⟩ := bnd hs
  have k := k v hk
  obtain ⟨p, e, R, s, m, args, below, meth, c, ⟨cells, slots⟩, Q, nL'⟩ := X
  obtain ⟨rfl, hx, hbc, hml, hown, hts, hSt, hc1, hc2, hf, hlo⟩ := C
  unfold rmI at hv
  by_cases h0 : y = 0
  · rw [if_pos h0] at hv; cases hv
  · rw [if_neg h0] at hv; cases hv
    exact fun H locs ls hP hS hl => lv_irem hx hbc hdg h0 (k H locs ls hP hS hl)
theorem g_if_eq (C : CX E X own cc nL d) {x : Int32} {off : Int} {tgt : Nat} {A B : Option ρ} [di : Decidable (x = 0)] (hdg : decode cc pc = .ok (.ifCond .eq off, 3)) (ht : (pc : Int) + off = (tgt : Int)) (hs : (if x = 0 then A else B) = some res) (kt : A = some res → GG l E X h tgt lv st) (kf : B = some res → GG l E X h (pc + 3) lv st) : GG l E X h pc lv (.int x :: st) := by
  obtain ⟨p, e, R, s, m, args, below, meth, c, ⟨cells, slots⟩, Q, nL'⟩ := X
  obtain ⟨rfl, hx, hbc, hml, hown, hts, hSt, hc1, hc2, hf, hlo⟩ := C
  exact fun H locs ls hP hS hl => lv_if_eq hx hbc hdg ht (fun q => kt (by rw [if_pos q] at hs; exact hs) H locs ls hP hS hl) (fun q => kf (by rw [if_neg q] at hs; exact hs) H locs ls hP hS hl)
theorem g_if_ne (C : CX E X own cc nL d) {x : Int32} {off : Int} {tgt : Nat} {A B : Option ρ} [di : Decidable (x = 0)] (hdg : decode cc pc = .ok (.ifCond .ne off, 3)) (ht : (pc : Int) + off = (tgt : Int)) (hs : (if x = 0 then A else B) = some res) (kt : A = some res → GG l E X h (pc + 3) lv st) (kf : B = some res → GG l E X h tgt lv st) : GG l E X h pc lv (.int x :: st) := by
  obtain ⟨p, e, R, s, m, args, below, meth, c, ⟨cells, slots⟩, Q, nL'⟩ := X
  obtain ⟨rfl, hx, hbc, hml, hown, hts, hSt, hc1, hc2, hf, hlo⟩ := C
  exact fun H locs ls hP hS hl => lv_if_ne hx hbc hdg ht (fun q => kf (by rw [if_neg q] at hs; exact hs) H locs ls hP hS hl) (fun q => kt (by rw [if_pos q] at hs; exact hs) H locs ls hP hS hl)
theorem g_if_lt (C : CX E X own cc nL d) {x : Int32} {off : Int} {tgt : Nat} {A B : Option ρ} [di : Decidable (x < 0)] (hdg : decode cc pc = .ok (.ifCond .lt off, 3)) (ht : (pc : Int) + off = (tgt : Int)) (hs : (if x < 0 then A else B) = some res) (kt : A = some res → GG l E X h tgt lv st) (kf : B = some res → GG l E X h (pc + 3) lv st) : GG l E X h pc lv (.int x :: st) := by
  obtain ⟨p, e, R, s, m, args, below, meth, c, ⟨cells, slots⟩, Q, nL'⟩ := X
  obtain ⟨rfl, hx, hbc, hml, hown, hts, hSt, hc1, hc2, hf, hlo⟩ := C
  exact fun H locs ls hP hS hl => lv_if_lt hx hbc hdg ht (fun q => kt (by rw [if_pos q] at hs; exact hs) H locs ls hP hS hl) (fun q => kf (by rw [if_neg q] at hs; exact hs) H locs ls hP hS hl)
theorem g_if_ge (C : CX E X own cc nL d) {x : Int32} {off : Int} {tgt : Nat} {A B : Option ρ} [di : Decidable (0 ≤ x)] (hdg : decode cc pc = .ok (.ifCond .ge off, 3)) (ht : (pc : Int) + off = (tgt : Int)) (hs : (if 0 ≤ x then A else B) = some res) (kt : A = some res → GG l E X h tgt lv st) (kf : B = some res → GG l E X h (pc + 3) lv st) : GG l E X h pc lv (.int x :: st) := by
  obtain ⟨p, e, R, s, m, args, below, meth, c, ⟨cells, slots⟩, Q, nL'⟩ := X
  obtain ⟨rfl, hx, hbc, hml, hown, hts, hSt, hc1, hc2, hf, hlo⟩ := C
  exact fun H locs ls hP hS hl => lv_if_ge hx hbc hdg ht (fun q => kt (by rw [if_pos q] at hs; exact hs) H locs ls hP hS hl) (fun q => kf (by rw [if_neg q] at hs; exact hs) H locs ls hP hS hl)
theorem g_if_gt (C : CX E X own cc nL d) {x : Int32} {off : Int} {tgt : Nat} {A B : Option ρ} [di : Decidable (0 < x)] (hdg : decode cc pc = .ok (.ifCond .gt off, 3)) (ht : (pc : Int) + off = (tgt : Int)) (hs : (if 0 < x then A else B) = some res) (kt : A = some res → GG l E X h tgt lv st) (kf : B = some res → GG l E X h (pc + 3) lv st) : GG l E X h pc lv (.int x :: st) := by
  obtain ⟨p, e, R, s, m, args, below, meth, c, ⟨cells, slots⟩, Q, nL'⟩ := X
  obtain ⟨rfl, hx, hbc, hml, hown, hts, hSt, hc1, hc2, hf, hlo⟩ := C
  exact fun H locs ls hP hS hl => lv_if_gt hx hbc hdg ht (fun q => kt (by rw [if_pos q] at hs; exact hs) H locs ls hP hS hl) (fun q => kf (by rw [if_neg q] at hs; exact hs) H locs ls hP hS hl)
theorem g_if_le (C : CX E X own cc nL d) {x : Int32} {off : Int} {tgt : Nat} {A B : Option ρ} [di : Decidable (x ≤ 0)] (hdg : decode cc pc = .ok (.ifCond .le off, 3)) (ht : (pc : Int) + off = (tgt : Int)) (hs : (if x ≤ 0 then A else B) = some res) (kt : A = some res → GG l E X h tgt lv st) (kf : B = some res → GG l E X h (pc + 3) lv st) : GG l E X h pc lv (.int x :: st) := by
  obtain ⟨p, e, R, s, m, args, below, meth, c, ⟨cells, slots⟩, Q, nL'⟩ := X
  obtain ⟨rfl, hx, hbc, hml, hown, hts, hSt, hc1, hc2, hf, hlo⟩ := C
  exact fun H locs ls hP hS hl => lv_if_le hx hbc hdg ht (fun q => kt (by rw [if_pos q] at hs; exact hs) H locs ls hP hS hl) (fun q => kf (by rw [if_neg q] at hs; exact hs) H locs ls hP hS hl)
theorem g_icmp_eq (C : CX E X own cc nL d) {x y : Int32} {off : Int} {tgt : Nat} {A B : Option ρ} [di : Decidable (x = y)] (hdg : decode cc pc = .ok (.if_icmp .eq off, 3)) (ht : (pc : Int) + off = (tgt : Int)) (hs : (if x = y then A else B) = some res) (kt : A = some res → GG l E X h tgt lv st) (kf : B = some res → GG l E X h (pc + 3) lv st) : GG l E X h pc lv (.int y :: .int x :: st) := by
  obtain ⟨p, e, R, s, m, args, below, meth, c, ⟨cells, slots⟩, Q, nL'⟩ := X
  obtain ⟨rfl, hx, hbc, hml, hown, hts, hSt, hc1, hc2, hf, hlo⟩ := C
  exact fun H locs ls hP hS hl => lv_icmp_eq hx hbc hdg ht (fun q => kt (by rw [if_pos q] at hs; exact hs) H locs ls hP hS hl) (fun q => kf (by rw [if_neg q] at hs; exact hs) H locs ls hP hS hl)
theorem g_icmp_ne (C : CX E X own cc nL d) {x y : Int32} {off : Int} {tgt : Nat} {A B : Option ρ} [di : Decidable (x = y)] (hdg : decode cc pc = .ok (.if_icmp .ne off, 3)) (ht : (pc : Int) + off = (tgt : Int)) (hs : (if x = y then A else B) = some res) (kt : A = some res → GG l E X h (pc + 3) lv st) (kf : B = some res → GG l E X h tgt lv st) : GG l E X h pc lv (.int y :: .int x :: st) := by
  obtain ⟨p, e, R, s, m, args, below, meth, c, ⟨cells, slots⟩, Q, nL'⟩ := X
  obtain ⟨rfl, hx, hbc, hml, hown, hts, hSt, hc1, hc2, hf, hlo⟩ := C
  exact fun H locs ls hP hS hl => lv_icmp_ne hx hbc hdg ht (fun q => kf (by rw [if_neg q] at hs; exact hs) H locs ls hP hS hl) (fun q => kt (by rw [if_pos q] at hs; exact hs) H locs ls hP hS hl)
theorem g_icmp_lt (C : CX E X own cc nL d) {x y : Int32} {off : Int} {tgt : Nat} {A B : Option ρ} [di : Decidable (x < y)] (hdg : decode cc pc = .ok (.if_icmp .lt off, 3)) (ht : (pc : Int) + off = (tgt : Int)) (hs : (if x < y then A else B) = some res) (kt : A = some res → GG l E X h tgt lv st) (kf : B = some res → GG l E X h (pc + 3) lv st) : GG l E X h pc lv (.int y :: .int x :: st) := by
  obtain ⟨p, e, R, s, m, args, below, meth, c, ⟨cells, slots⟩, Q, nL'⟩ := X
  obtain ⟨rfl, hx, hbc, hml, hown, hts, hSt, hc1, hc2, hf, hlo⟩ := C
  exact fun H locs ls hP hS hl => lv_icmp_lt hx hbc hdg ht (fun q => kt (by rw [if_pos q] at hs; exact hs) H locs ls hP hS hl) (fun q => kf (by rw [if_neg q] at hs; exact hs) H locs ls hP hS hl)
theorem g_icmp_ge (C : CX E X own cc nL d) {x y : Int32} {off : Int} {tgt : Nat} {A B : Option ρ} [di : Decidable (y ≤ x)] (hdg : decode cc pc = .ok (.if_icmp .ge off, 3)) (ht : (pc : Int) + off = (tgt : Int)) (hs : (if y ≤ x then A else B) = some res) (kt : A = some res → GG l E X h tgt lv st) (kf : B = some res → GG l E X h (pc + 3) lv st) : GG l E X h pc lv (.int y :: .int x :: st) := by
  obtain ⟨p, e, R, s, m, args, below, meth, c, ⟨cells, slots⟩, Q, nL'⟩ := X
  obtain ⟨rfl, hx, hbc, hml, hown, hts, hSt, hc1, hc2, hf, hlo⟩ := C
  exact fun H locs ls hP hS hl => lv_icmp_ge hx hbc hdg ht (fun q => kt (by rw [if_pos q] at hs; exact hs) H locs ls hP hS hl) (fun q => kf (by rw [if_neg q] at hs; exact hs) H locs ls hP hS hl)
theorem g_icmp_gt (C : CX E X own cc nL d) {x y : Int32} {off : Int} {tgt : Nat} {A B : Option ρ} [di : Decidable (y < x)] (hdg : decode cc pc = .ok (.if_icmp .gt off, 3)) (ht : (pc : Int) + off = (tgt : Int)) (hs : (if y < x then A else B) = some res) (kt : A = some res → GG l E X h tgt lv st) (kf : B = some res → GG l E X h (pc + 3) lv st) : GG l E X h pc lv (.int y :: .int x :: st) := by
  obtain ⟨p, e, R, s, m, args, below, meth, c, ⟨cells, slots⟩, Q, nL'⟩ := X
  obtain ⟨rfl, hx, hbc, hml, hown, hts, hSt, hc1, hc2, hf, hlo⟩ := C
  exact fun H locs ls hP hS hl => lv_icmp_gt hx hbc hdg ht (fun q => kt (by rw [if_pos q] at hs; exact hs) H locs ls hP hS hl) (fun q => kf (by rw [if_neg q] at hs; exact hs) H locs ls hP hS hl)
theorem g_icmp_le (C : CX E X own cc nL d) {x y : Int32} {off : Int} {tgt : Nat} {A B : Option ρ} [di : Decidable (x ≤ y)] (hdg : decode cc pc = .ok (.if_icmp .le off, 3)) (ht : (pc : Int) + off = (tgt : Int)) (hs : (if x ≤ y then A else B) = some res) (kt : A = some res → GG l E X h tgt lv st) (kf : B = some res → GG l E X h (pc + 3) lv st) : GG l E X h pc lv (.int y :: .int x :: st) := by
  obtain ⟨p, e, R, s, m, args, below, meth, c, ⟨cells, slots⟩, Q, nL'⟩ := X
  obtain ⟨rfl, hx, hbc, hml, hown, hts, hSt, hc1, hc2, hf, hlo⟩ := C
  exact fun H locs ls hP hS hl => lv_icmp_le hx hbc hdg ht (fun q => kt (by rw [if_pos q] at hs; exact hs) H locs ls hP hS hl) (fun q => kf (by rw [if_neg q] at hs; exact hs) H locs ls hP hS hl)
theorem g_case {G : Prop} {P : Prop} [di : Decidable P] {A B : Option ρ} (hs : (if P then A else B) = some res) (kt : P → A = some res → G) (kf : ¬ P → B = some res → G) : G := by
  by_cases q : P
  · rw [if_pos q] at hs; exact kt q hs
  · rw [if_neg q] at hs; exact kf q hs
theorem ne_tz {x c : Int32} {z : Int} (hz : c.toInt = z) (h : ¬ x = c) : ¬ x.toInt = z := fun e => h (Int32.toInt_inj.mp (e.trans hz.symm))
theorem g_tabIn (C : CX E X own cc nL d) {dflt lo hi : Int} {offs : Array Int} {ln : Nat} {x v : Int32} {off : Int} {tgt : Nat} (hdg : decode cc pc = .ok (.tableswitch dflt lo hi offs, ln)) (hv : x = v) (h1 : ¬ v.toInt < lo) (h2 : ¬ hi < v.toInt) (ho : offs[(v.toInt - lo).toNat]? = some off) (ht : (pc : Int) + off = (tgt : Int)) (k : GG l E X h tgt lv st) : GG l E X h pc lv (.int x :: st) := by
  obtain ⟨p, e, R, s, m, args, below, meth, c, ⟨cells, slots⟩, Q, nL'⟩ := X
  obtain ⟨rfl, hx, hbc, hml, hown, hts, hSt, hc1, hc2, hf, hlo⟩ := C
  subst hv
  exact fun H locs ls hP hS hl => lv_tableIn hx hbc hdg h1 h2 ho ht (k H locs ls hP hS hl)
theorem g_tabOut (C : CX E X own cc nL d) {dflt lo hi : Int} {offs : Array Int} {ln : Nat} {x : Int32} {tgt : Nat} (hdg : decode cc pc = .ok (.tableswitch dflt lo hi offs, ln)) (hv : x.toInt < lo ∨ hi < x.toInt) (ht : (pc : Int) + dflt = (tgt : Int)) (k : GG l E X h tgt lv st) : GG l E X h pc lv (.int x :: st) := by
  obtain ⟨p, e, R, s, m, args, below, meth, c, ⟨cells, slots⟩, Q, nL'⟩ := X
  obtain ⟨rfl, hx, hbc, hml, hown, hts, hSt, hc1, hc2, hf, hlo⟩ := C
  exact fun H locs ls hP hS hl => lv_tableOut hx hbc hdg hv ht (k H locs ls hP hS hl)
theorem g_iald (C : CX E X own cc nL d) {a : Nat} {i : Int32} {K : Int32 → Option ρ} (ha : OKr a 6) (hdg : decode cc pc = .ok (.iaload, 1)) (hs : Option.bind (ldI h a i) K = some res) (k : ∀ v, K v = some res → GG l E X h (pc + 1) lv (.int v :: st)) : GG l E X h pc lv (.int i :: .ref (ad E a) :: st) := by
  obtain ⟨v, hv, hk⟩ := bnd hs
  have k := k v hk
  obtain ⟨p, e, R, s, m, args, below, meth, c, ⟨cells, slots⟩, Q, nL'⟩ := X
  obtain ⟨rfl, hx, hbc, hml, hown, hts, hSt, hc1, hc2, hf, hlo⟩ := C
  unfold ldI at hv
  by_cases h0 : i < 0 ∨ len a ≤ i.toNatClampNeg
  · rw [if_pos h0] at hv; cases hv
  · rw [if_neg h0] at hv; cases hv
    exact fun H locs ls hP hS hl => va_iald hx hbc (hSt.2.1 a ha.1 ha.2) hP a 0 (by rw [wsH_at E h ha.1, ce6 E h ha.2]) rfl h0 hdg (k H locs ls hP hS hl)
theorem g_lald (C : CX E X own cc nL d) {a : Nat} {i : Int32} {K : Int64 → Option ρ} (ha : OKr a 7) (hdg : decode cc pc = .ok (.laload, 1)) (hs : Option.bind (ldJ h a i) K = some res) (k : ∀ v, K v = some res → GG l E X h (pc + 1) lv (.long v :: st)) : GG l E X h pc lv (.int i :: .ref (ad E a) :: st) := by
  obtain ⟨v, hv, hk⟩ := bnd hs
  have k := k v hk
  obtain ⟨p, e, R, s, m, args, below, meth, c, ⟨cells, slots⟩, Q, nL'⟩ := X
  obtain ⟨rfl, hx, hbc, hml, hown, hts, hSt, hc1, hc2, hf, hlo⟩ := C
  unfold ldJ at hv
  by_cases h0 : i < 0 ∨ len a ≤ i.toNatClampNeg
  · rw [if_pos h0] at hv; cases hv
  · rw [if_neg h0] at hv; cases hv
    exact fun H locs ls hP hS hl => va_lald hx hbc (hSt.2.2.1 a ha.1 ha.2) hP a 0 (by rw [wsH_at E h ha.1, ce7 E h ha.2]) rfl h0 hdg (k H locs ls hP hS hl)
theorem ok8 : ∀ a, a < 138 → kd a = 8 → ∀ j, j < len a → rf a j < 138 ∧ kd (rf a j) = 3 := by decide +kernel
theorem g_aald (C : CX E X own cc nL d) {a : Nat} {i : Int32} {K : Nat → Option ρ} (ha : OKr a 8) (hdg : decode cc pc = .ok (.aaload, 1)) (hs : Option.bind (ldR a i) K = some res) (k : ∀ v, OKr v 3 → K v = some res → GG l E X h (pc + 1) lv (.ref (ad E v) :: st)) : GG l E X h pc lv (.int i :: .ref (ad E a) :: st) := by
  obtain ⟨v, hv, hk⟩ := bnd hs
  unfold ldR at hv
  by_cases h0 : i < 0 ∨ len a ≤ i.toNatClampNeg
  · rw [if_pos h0] at hv; cases hv
  · rw [if_neg h0] at hv; cases hv
    have k := k _ (ok8 a ha.1 ha.2 _ (Nat.lt_of_not_le (fun z => h0 (Or.inr z)))) hk
    obtain ⟨p, e, R, s, m, args, below, meth, c, ⟨cells, slots⟩, Q, nL'⟩ := X
    obtain ⟨rfl, hx, hbc, hml, hown, hts, hSt, hc1, hc2, hf, hlo⟩ := C
    exact fun H locs ls hP hS hl => va_aldq hx hbc (hSt.2.2.2.1 a ha.1 ha.2) hP a 0 (C := RX3) (f := fun j => some (ad E (rf a j))) (by rw [wsH_at E h ha.1, ce8 E h ha.2]) rfl h0 hdg (k H locs ls hP hS hl)
theorem wI_at (h : Hp) (a j : Nat) (v : Int32) : (wI h a j v).1 a = upd (h.1 a) j v := by unfold wI upd2; simp
theorem wI_ne (h : Hp) {a k : Nat} (j : Nat) (v : Int32) (hk : k ≠ a) : (wI h a j v).1 k = h.1 k := by unfold wI upd2; simp [hk]
theorem wJ_at (h : Hp) (a j : Nat) (v : Int64) : (wJ h a j v).2.1 a = vp_updL (h.2.1 a) j v := by unfold wJ upd2L; simp
theorem wJ_ne (h : Hp) {a k : Nat} (j : Nat) (v : Int64) (hk : k ≠ a) : (wJ h a j v).2.1 k = h.2.1 k := by unfold wJ upd2L; simp [hk]
theorem ws_wI (E : Ep) (h : Hp) {a : Nat} (j : Nat) (v : Int32) (ha : a < NC) : (wsH E h).set a (ad E a, cel E (wI h a j v) a) = wsH E (wI h a j v) := wsH_set ha (fun k hk => cel_eq (wI_ne h j v hk) rfl (Or.inl rfl))
theorem ws_wJ (E : Ep) (h : Hp) {a : Nat} (j : Nat) (v : Int64) (ha : a < NC) : (wsH E h).set a (ad E a, cel E (wJ h a j v) a) = wsH E (wJ h a j v) := wsH_set ha (fun k hk => cel_eq rfl (wJ_ne h j v hk) (Or.inl rfl))
theorem ws_cpI (E : Ep) (h : Hp) {a0 a : Nat} (sp dp n : Nat) (ha : a < NC) : (wsH E h).set a (ad E a, cel E (cpI h a0 sp a dp n) a) = wsH E (cpI h a0 sp a dp n) := wsH_set ha (fun k hk => cel_eq (by unfold cpI; simp [hk]) rfl (Or.inl rfl))
theorem ws_cpJ (E : Ep) (h : Hp) {a0 a : Nat} (sp dp n : Nat) (ha : a < NC) : (wsH E h).set a (ad E a, cel E (cpJ h a0 sp a dp n) a) = wsH E (cpJ h a0 sp a dp n) := wsH_set ha (fun k hk => cel_eq rfl (by unfold cpJ; simp [hk]) (Or.inl rfl))
theorem g_iast (C : CX E X own cc nL d) {a : Nat} {i x : Int32} {K : Hp → Option ρ} (ha : OKr a 6) (hdg : decode cc pc = .ok (.iastore, 1)) (hs : Option.bind (stI h a i x) K = some res) (k : ∀ h1, K h1 = some res → GG l E X h1 (pc + 1) lv st) : GG l E X h pc lv (.int x :: .int i :: .ref (ad E a) :: st) := by
  obtain ⟨v, hv, hk⟩ := bnd hs
  have k := k v hk
  obtain ⟨p, e, R, s, m, args, below, meth, c, ⟨cells, slots⟩, Q, nL'⟩ := X
  obtain ⟨rfl, hx, hbc, hml, hown, hts, hSt, hc1, hc2, hf, hlo⟩ := C
  unfold stI at hv
  by_cases h0 : i < 0 ∨ len a ≤ i.toNatClampNeg
  · rw [if_pos h0] at hv; cases hv
  · rw [if_neg h0] at hv; cases hv
    refine fun H locs ls hP hS hl => va_iast hx hbc (hSt.2.1 a ha.1 ha.2) hP (wsH_D h hSt.2.2.2.2.2.1) hS a 0 (by rw [wsH_at E h ha.1, ce6 E h ha.2]) rfl h0 hdg (fun H1 locs1 hP1 _ hS1 => k H1 locs1 ls ?_ hS1 hl)
    have e := ws_wI E h i.toNatClampNeg x ha.1
    rw [ce6 E _ ha.2, wI_at] at e
    unfold Rp
    rw [← e]
    exact hP1
theorem g_last (C : CX E X own cc nL d) {a : Nat} {i : Int32} {x : Int64} {K : Hp → Option ρ} (ha : OKr a 7) (hdg : decode cc pc = .ok (.lastore, 1)) (hs : Option.bind (stJ h a i x) K = some res) (k : ∀ h1, K h1 = some res → GG l E X h1 (pc + 1) lv st) : GG l E X h pc lv (.long x :: .int i :: .ref (ad E a) :: st) := by
  obtain ⟨v, hv, hk⟩ := bnd hs
  have k := k v hk
  obtain ⟨p, e, R, s, m, args, below, meth, c, ⟨cells, slots⟩, Q, nL'⟩ := X
  obtain ⟨rfl, hx, hbc, hml, hown, hts, hSt, hc1, hc2, hf, hlo⟩ := C
  unfold stJ at hv
  by_cases h0 : i < 0 ∨ len a ≤ i.toNatClampNeg
  · rw [if_pos h0] at hv; cases hv
  · rw [if_neg h0] at hv; cases hv
    refine fun H locs ls hP hS hl => va_last hx hbc (hSt.2.2.1 a ha.1 ha.2) hP (wsH_D h hSt.2.2.2.2.2.1) hS a 0 (by rw [wsH_at E h ha.1, ce7 E h ha.2]) rfl h0 hdg (fun H1 locs1 hP1 _ hS1 => k H1 locs1 ls ?_ hS1 hl)
    have e := ws_wJ E h i.toNatClampNeg x ha.1
    rw [ce7 E _ ha.2, wJ_at] at e
    unfold Rp
    rw [← e]
    exact hP1
theorem g_alen (C : CX E X own cc nL d) {a : Nat} (ha : OKr a 6) (hdg : decode cc pc = .ok (.arraylength, 1)) (k : GG l E X h (pc + 1) lv (.int (Int32.ofNat (len a)) :: st)) : GG l E X h pc lv (.ref (ad E a) :: st) := by
  obtain ⟨p, e, R, s, m, args, below, meth, c, ⟨cells, slots⟩, Q, nL'⟩ := X
  obtain ⟨rfl, hx, hbc, hml, hown, hts, hSt, hc1, hc2, hf, hlo⟩ := C
  exact fun H locs ls hP hS hl => va_alen hx hbc (hSt.2.1 a ha.1 ha.2) hP a 0 (by rw [wsH_at E h ha.1, ce6 E h ha.2]) rfl rfl hdg (k H locs ls hP hS hl)
theorem g_alenJ (C : CX E X own cc nL d) {a : Nat} (ha : OKr a 7) (hdg : decode cc pc = .ok (.arraylength, 1)) (k : GG l E X h (pc + 1) lv (.int (Int32.ofNat (len a)) :: st)) : GG l E X h pc lv (.ref (ad E a) :: st) := by
  obtain ⟨p, e, R, s, m, args, below, meth, c, ⟨cells, slots⟩, Q, nL'⟩ := X
  obtain ⟨rfl, hx, hbc, hml, hown, hts, hSt, hc1, hc2, hf, hlo⟩ := C
  exact fun H locs ls hP hS hl => va_alen hx hbc (hSt.2.2.1 a ha.1 ha.2) hP a 0 (by rw [wsH_at E h ha.1, ce7 E h ha.2]) rfl rfl hdg (k H locs ls hP hS hl)
theorem g_alen8 (C : CX E X own cc nL d) {a : Nat} (ha : OKr a 8) (hdg : decode cc pc = .ok (.arraylength, 1)) (k : GG l E X h (pc + 1) lv (.int (Int32.ofNat (len a)) :: st)) : GG l E X h pc lv (.ref (ad E a) :: st) := by
  obtain ⟨p, e, R, s, m, args, below, meth, c, ⟨cells, slots⟩, Q, nL'⟩ := X
  obtain ⟨rfl, hx, hbc, hml, hown, hts, hSt, hc1, hc2, hf, hlo⟩ := C
  exact fun H locs ls hP hS hl => va_alen hx hbc (hSt.2.2.2.1 a ha.1 ha.2) hP a 0 (by rw [wsH_at E h ha.1, ce8 E h ha.2]) rfl rfl hdg (k H locs ls hP hS hl)
theorem g_gets138 (C : CX E X own cc nL d) {i : Nat} (hdg : decode cc pc = .ok (.getstatic i, 3)) (hw : Cond.fieldLink own i RX4 "SETTING_LEAST" "[I" ∈ TB) (k : GG l E X h (pc + 3) lv (.ref (ad E 138) :: st)) : GG l E X h pc lv st := by
  obtain ⟨p, e, R, s, m, args, below, meth, c, ⟨cells, slots⟩, Q, nL'⟩ := X
  obtain ⟨rfl, hx, hbc, hml, hown, hts, hSt, hc1, hc2, hf, hlo⟩ := C
  exact fun H locs ls hP hS hl => va_gets hx hbc hSt.2.2.2.2.2.2.1 hS hown (hts _ hw) (fun _ h9 => h9) hdg (k H locs ls hP hS hl)
theorem g_sald138 (C : CX E X own cc nL d) {i : Int32} {K : Int32 → Option ρ} (hdg : decode cc pc = .ok (.iaload, 1)) (hs : Option.bind (ldS 138 i) K = some res) (k : ∀ v, K v = some res → GG l E X h (pc + 1) lv (.int v :: st)) : GG l E X h pc lv (.int i :: .ref (ad E 138) :: st) := by
  obtain ⟨v, hv, hk⟩ := bnd hs
  have k := k v hk
  obtain ⟨p, e, R, s, m, args, below, meth, c, ⟨cells, slots⟩, Q, nL'⟩ := X
  obtain ⟨rfl, hx, hbc, hml, hown, hts, hSt, hc1, hc2, hf, hlo⟩ := C
  unfold ldS at hv
  by_cases h0 : i < 0 ∨ len 138 ≤ i.toNatClampNeg
  · rw [if_pos h0] at hv; cases hv
  · rw [if_neg h0] at hv; cases hv
    exact fun H locs ls hP hS hl => va_ti hx hbc hSt.2.2.2.2.2.2.2.1 hS h0 rfl hdg (k H locs ls hP hS hl)
theorem g_slen138 (C : CX E X own cc nL d) (hdg : decode cc pc = .ok (.arraylength, 1)) (k : GG l E X h (pc + 1) lv (.int (Int32.ofNat (len 138)) :: st)) : GG l E X h pc lv (.ref (ad E 138) :: st) := by
  obtain ⟨p, e, R, s, m, args, below, meth, c, ⟨cells, slots⟩, Q, nL'⟩ := X
  obtain ⟨rfl, hx, hbc, hml, hown, hts, hSt, hc1, hc2, hf, hlo⟩ := C
  exact fun H locs ls hP hS hl => va_tlen hx hbc hSt.2.2.2.2.2.2.2.1 hS rfl hdg (k H locs ls hP hS hl)
theorem g_gets139 (C : CX E X own cc nL d) {i : Nat} (hdg : decode cc pc = .ok (.getstatic i, 3)) (hw : Cond.fieldLink own i RX4 "SETTING_MOST" "[I" ∈ TB) (k : GG l E X h (pc + 3) lv (.ref (ad E 139) :: st)) : GG l E X h pc lv st := by
  obtain ⟨p, e, R, s, m, args, below, meth, c, ⟨cells, slots⟩, Q, nL'⟩ := X
  obtain ⟨rfl, hx, hbc, hml, hown, hts, hSt, hc1, hc2, hf, hlo⟩ := C
  exact fun H locs ls hP hS hl => va_gets hx hbc hSt.2.2.2.2.2.2.2.2.1 hS hown (hts _ hw) (fun _ h9 => h9) hdg (k H locs ls hP hS hl)
theorem g_sald139 (C : CX E X own cc nL d) {i : Int32} {K : Int32 → Option ρ} (hdg : decode cc pc = .ok (.iaload, 1)) (hs : Option.bind (ldS 139 i) K = some res) (k : ∀ v, K v = some res → GG l E X h (pc + 1) lv (.int v :: st)) : GG l E X h pc lv (.int i :: .ref (ad E 139) :: st) := by
  obtain ⟨v, hv, hk⟩ := bnd hs
  have k := k v hk
  obtain ⟨p, e, R, s, m, args, below, meth, c, ⟨cells, slots⟩, Q, nL'⟩ := X
  obtain ⟨rfl, hx, hbc, hml, hown, hts, hSt, hc1, hc2, hf, hlo⟩ := C
  unfold ldS at hv
  by_cases h0 : i < 0 ∨ len 139 ≤ i.toNatClampNeg
  · rw [if_pos h0] at hv; cases hv
  · rw [if_neg h0] at hv; cases hv
    exact fun H locs ls hP hS hl => va_ti hx hbc hSt.2.2.2.2.2.2.2.2.2 hS h0 rfl hdg (k H locs ls hP hS hl)
theorem g_slen139 (C : CX E X own cc nL d) (hdg : decode cc pc = .ok (.arraylength, 1)) (k : GG l E X h (pc + 1) lv (.int (Int32.ofNat (len 139)) :: st)) : GG l E X h pc lv (.ref (ad E 139) :: st) := by
  obtain ⟨p, e, R, s, m, args, below, meth, c, ⟨cells, slots⟩, Q, nL'⟩ := X
  obtain ⟨rfl, hx, hbc, hml, hown, hts, hSt, hc1, hc2, hf, hlo⟩ := C
  exact fun H locs ls hP hS hl => va_tlen hx hbc hSt.2.2.2.2.2.2.2.2.2 hS rfl hdg (k H locs ls hP hS hl)
theorem g_acI (C : CX E X own cc nL d) {a0 a1 i : Nat} {sp dp n : Int32} {K : Hp → Option ρ} (hd : 1 ≤ d) (ha0 : OKr a0 6) (ha1 : OKr a1 6) (hdg : decode cc pc = .ok (.invokestatic i, 3)) (hw : Cond.methodLink own i arraycopyName ∈ TB) (hw1 : Cond.native arraycopyName ∈ TB) (hw2 : Cond.static arraycopyName ∈ TB) (hw3 : Cond.initialized "java/lang/System" ∈ TB) (hcat : (st.map fun v => v.category).sum ≤ 8)
    (hs : Option.bind (acI h a0 sp a1 dp n) K = some res) (k : ∀ h1, K h1 = some res → GG l E X h1 (pc + 3) lv st) : GG l E X h pc lv (.int n :: .int dp :: .ref (ad E a1) :: .int sp :: .ref (ad E a0) :: st) := by
  obtain ⟨v, hv, hk⟩ := bnd hs
  have k := k v hk
  obtain ⟨p, e, R, s, m, args, below, meth, c, ⟨cells, slots⟩, Q, nL'⟩ := X
  obtain ⟨rfl, hx, hbc, hml, hown, hts, hSt, hc1, hc2, hf, hlo⟩ := C
  unfold acI at hv
  by_cases h0 : sp < 0 ∨ dp < 0 ∨ n < 0 ∨ len a0 < sp.toNatClampNeg + n.toNatClampNeg ∨ len a1 < dp.toNatClampNeg + n.toNatClampNeg
  · rw [if_pos h0] at hv; cases hv
  · rw [if_neg h0] at hv; cases hv
    have hKK : va_K (eD E) vwCl ([(cid E a0, .int)] ++ [(cid E a1, .int)]) s := (hSt.2.1 a0 ha0.1 ha0.2).app (hSt.2.1 a1 ha1.1 ha1.2)
    refine fun H locs ls hP hS hl => va_copyi hx hbc (hml.trans hl.1.symm) hown (hts _ hw) (hts _ hw1) (hts _ hw2) (hts _ hw3) hKK hP (wsH_D h hSt.2.2.2.2.2.1) hS a0 a1 0 1 (by rw [wsH_at E h ha0.1, ce6 E h ha0.2]) (by rw [wsH_at E h ha1.1, ce6 E h ha1.2]) rfl rfl rfl
      (fun z => h0 (Or.inl z)) (fun z => h0 (Or.inr (Or.inl z))) (fun z => h0 (Or.inr (Or.inr (Or.inl z)))) (Nat.le_of_not_lt (fun z => h0 (Or.inr (Or.inr (Or.inr (Or.inl z)))))) (Nat.le_of_not_lt (fun z => h0 (Or.inr (Or.inr (Or.inr (Or.inr z)))))) (fun _ _ => rfl)
      (Nat.le_trans hd hf) (by have e1 : nativeFrameWords "java/lang/System" "arraycopy" 5 = 7 := rfl
                               rw [e1]; omega) hdg (fun H1 locs1 hP1 _ hS1 => k H1 locs1 ls ?_ hS1 hl)
    have e := ws_cpI E h (a0 := a0) sp.toNatClampNeg dp.toNatClampNeg n.toNatClampNeg ha1.1
    rw [ce6 E _ ha1.2] at e
    have e2 : (cpI h a0 sp.toNatClampNeg a1 dp.toNatClampNeg n.toNatClampNeg).1 a1 = va_cpy (h.1 a0) (h.1 a1) sp.toNatClampNeg dp.toNatClampNeg n.toNatClampNeg := by unfold cpI; simp
    rw [e2] at e
    unfold Rp
    rw [← e]
    exact hP1
theorem g_acJ (C : CX E X own cc nL d) {a0 a1 i : Nat} {sp dp n : Int32} {K : Hp → Option ρ} (hd : 1 ≤ d) (ha0 : OKr a0 7) (ha1 : OKr a1 7) (hdg : decode cc pc = .ok (.invokestatic i, 3)) (hw : Cond.methodLink own i arraycopyName ∈ TB) (hw1 : Cond.native arraycopyName ∈ TB) (hw2 : Cond.static arraycopyName ∈ TB) (hw3 : Cond.initialized "java/lang/System" ∈ TB) (hcat : (st.map fun v => v.category).sum ≤ 8)
    (hs : Option.bind (acJ h a0 sp a1 dp n) K = some res) (k : ∀ h1, K h1 = some res → GG l E X h1 (pc + 3) lv st) : GG l E X h pc lv (.int n :: .int dp :: .ref (ad E a1) :: .int sp :: .ref (ad E a0) :: st) := by
  obtain ⟨v, hv, hk⟩ := bnd hs
  have k := k v hk
  obtain ⟨p, e, R, s, m, args, below, meth, c, ⟨cells, slots⟩, Q, nL'⟩ := X
  obtain ⟨rfl, hx, hbc, hml, hown, hts, hSt, hc1, hc2, hf, hlo⟩ := C
  unfold acJ at hv
  by_cases h0 : sp < 0 ∨ dp < 0 ∨ n < 0 ∨ len a0 < sp.toNatClampNeg + n.toNatClampNeg ∨ len a1 < dp.toNatClampNeg + n.toNatClampNeg
  · rw [if_pos h0] at hv; cases hv
  · rw [if_neg h0] at hv; cases hv
    have hKK : va_K (eD E) vwCl ([(cid E a0, .long)] ++ [(cid E a1, .long)]) s := (hSt.2.2.1 a0 ha0.1 ha0.2).app (hSt.2.2.1 a1 ha1.1 ha1.2)
    refine fun H locs ls hP hS hl => va_copyl hx hbc (hml.trans hl.1.symm) hown (hts _ hw) (hts _ hw1) (hts _ hw2) (hts _ hw3) hKK hP (wsH_D h hSt.2.2.2.2.2.1) hS a0 a1 0 1 (by rw [wsH_at E h ha0.1, ce7 E h ha0.2]) (by rw [wsH_at E h ha1.1, ce7 E h ha1.2]) rfl rfl rfl
      (fun z => h0 (Or.inl z)) (fun z => h0 (Or.inr (Or.inl z))) (fun z => h0 (Or.inr (Or.inr (Or.inl z)))) (Nat.le_of_not_lt (fun z => h0 (Or.inr (Or.inr (Or.inr (Or.inl z)))))) (Nat.le_of_not_lt (fun z => h0 (Or.inr (Or.inr (Or.inr (Or.inr z)))))) (fun _ _ => rfl)
      (Nat.le_trans hd hf) (by have e1 : nativeFrameWords "java/lang/System" "arraycopy" 5 = 7 := rfl
                               rw [e1]; omega) hdg (fun H1 locs1 hP1 _ hS1 => k H1 locs1 ls ?_ hS1 hl)
    have e := ws_cpJ E h (a0 := a0) sp.toNatClampNeg dp.toNatClampNeg n.toNatClampNeg ha1.1
    rw [ce7 E _ ha1.2] at e
    have e2 : (cpJ h a0 sp.toNatClampNeg a1 dp.toNatClampNeg n.toNatClampNeg).2.1 a1 = va_cpy (h.2.1 a0) (h.2.1 a1) sp.toNatClampNeg dp.toNatClampNeg n.toNatClampNeg := by unfold cpJ; simp
    rw [e2] at e
    unfold Rp
    rw [← e]
    exact hP1
theorem g_mmax (C : CX E X own cc nL d) {i : Nat} {x y : Int32} (hd : 1 ≤ d) (hdg : decode cc pc = .ok (.invokestatic i, 3)) (hw : Cond.methodLink own i Lib.Math.max.name ∈ TB) (hw1 : Cond.static Lib.Math.max.name ∈ TB) (hw2 : Cond.initialized "java/lang/Math" ∈ TB) (hw3 : Cond.code Lib.Math.max.name Lib.Math.max.code 2 (some .int) ∈ TB) (hcat : (st.map fun v => v.category).sum ≤ 8) (k : GG l E X h (pc + 3) lv (.int (if x < y then y else x) :: st)) : GG l E X h pc lv (.int y :: .int x :: st) := by
  obtain ⟨p, e, R, s, m, args, below, meth, c, ⟨cells, slots⟩, Q, nL'⟩ := X
  obtain ⟨rfl, hx, hbc, hml, hown, hts, hSt, hc1, hc2, hf, hlo⟩ := C
  exact fun H locs ls hP hS hl => va_mmax hx hbc (hml.trans hl.1.symm) hown (hts _ hw) (hts _ hw1) (hts _ hw2) (hts _ hw3) (Nat.le_trans hd hf) (by omega) hc1 hc2 hdg (k H locs ls hP hS hl)
theorem g_mmin (C : CX E X own cc nL d) {i : Nat} {x y : Int32} (hd : 1 ≤ d) (hdg : decode cc pc = .ok (.invokestatic i, 3)) (hw : Cond.methodLink own i Lib.Math.min.name ∈ TB) (hw1 : Cond.static Lib.Math.min.name ∈ TB) (hw2 : Cond.initialized "java/lang/Math" ∈ TB) (hw3 : Cond.code Lib.Math.min.name Lib.Math.min.code 2 (some .int) ∈ TB) (hcat : (st.map fun v => v.category).sum ≤ 8) (k : GG l E X h (pc + 3) lv (.int (if y < x then y else x) :: st)) : GG l E X h pc lv (.int y :: .int x :: st) := by
  obtain ⟨p, e, R, s, m, args, below, meth, c, ⟨cells, slots⟩, Q, nL'⟩ := X
  obtain ⟨rfl, hx, hbc, hml, hown, hts, hSt, hc1, hc2, hf, hlo⟩ := C
  exact fun H locs ls hP hS hl => va_mmin hx hbc (hml.trans hl.1.symm) hown (hts _ hw) (hts _ hw1) (hts _ hw2) (hts _ hw3) (Nat.le_trans hd hf) (by omega) hc1 hc2 hdg (k H locs ls hP hS hl)
theorem g_getf (C : CX E X own cc nL d) {a ci j i N : Nat} {Cn : String} {T : u_T} {fs : List Value} {v : Value} (hcl : vwCl[ci]? = some (Cn, T, N)) (hin : ∀ w ∈ u_ws Cn T N, w ∈ TB) (ha : OKr a ci) (hce : cel E h a = .inr (ci, fs)) (hj : j < N) (hv : fs[j]? = some v) (hw : Cond.fieldLink own i (T j).1 (T j).2.1 (T j).2.2.1 ∈ TB) (hdg : decode cc pc = .ok (.getfield i, 3)) (k : GG l E X h (pc + 3) lv (v :: st)) : GG l E X h pc lv (.ref (ad E a) :: st) := by
  obtain ⟨p, e, R, s, m, args, below, meth, c, ⟨cells, slots⟩, Q, nL'⟩ := X
  obtain ⟨rfl, hx, hbc, hml, hown, hts, hSt, hc1, hc2, hf, hlo⟩ := C
  exact fun H locs ls hP hS hl => va_get hx hbc hts hin hown hSt.1 hP a (by rw [wsH_at E h ha.1, hce]) hcl j hj (hts _ hw) (fun _ h9 => h9) hv hdg (k H locs ls hP hS hl)
theorem g_getfN (C : CX E X own cc nL d) {a ci j i N : Nat} {Cn host : String} {T : u_T} {fs : List Value} {v : Value} (hcl : vwCl[ci]? = some (Cn, T, N)) (hin : ∀ w ∈ u_ws Cn T N, w ∈ TB) (ha : OKr a ci) (hce : cel E h a = .inr (ci, fs)) (hj : j < N) (hv : fs[j]? = some v) (hw : Cond.fieldLinkNest own i (T j).1 (T j).2.1 (T j).2.2.1 host ∈ NWL) (hdg : decode cc pc = .ok (.getfield i, 3)) (k : GG l E X h (pc + 3) lv (v :: st)) : GG l E X h pc lv (.ref (ad E a) :: st) := by
  obtain ⟨p, e, R, s, m, args, below, meth, c, ⟨cells, slots⟩, Q, nL'⟩ := X
  obtain ⟨rfl, hx, hbc, hml, hown, hts, hSt, hc1, hc2, hf, hlo⟩ := C
  exact fun H locs ls hP hS hl => va_getN hx hbc hts hin hown hSt.1 hP a (by rw [wsH_at E h ha.1, hce]) hcl j hj (va_Nw.use rfl (hSt.2.2.2.2.1 _ hw)) (fun _ h9 => h9) hv hdg (k H locs ls hP hS hl)
theorem g_putf (C : CX E X own cc nL d) {a ci j i N : Nat} {Cn : String} {T : u_T} {fs : List Value} {v : Value} {ty : FieldType} (hcl : vwCl[ci]? = some (Cn, T, N)) (hin : ∀ w ∈ u_ws Cn T N, w ∈ TB) (ty0 : Nat → FieldType) (hty : ∀ k, k < N → parseFieldDescriptor (T k).2.2.1 = some (ty0 k)) (hnm : ∀ a, a < N → ∀ b, b < N → a ≠ b → (T a).2.1 ≠ (T b).2.1) (ha : OKr a ci) (hce : cel E h a = .inr (ci, fs)) (hj : j < N) (hjl : j < fs.length) (hfin : (T j).2.2.2 = false) (hd : parseFieldDescriptor (T j).2.2.1 = some ty) (hn : narrow ty v = v) (hft : fits ty v = true) (hw : Cond.fieldLink own i (T j).1 (T j).2.1 (T j).2.2.1 ∈ TB)
    (he : (wsH E h).set a (ad E a, .inr (ci, fs.set j v)) = wsH E h1) (hdg : decode cc pc = .ok (.putfield i, 3)) (k : GG l E X h1 (pc + 3) lv st) : GG l E X h pc lv (v :: .ref (ad E a) :: st) := by
  obtain ⟨p, e, R, s, m, args, below, meth, c, ⟨cells, slots⟩, Q, nL'⟩ := X
  obtain ⟨rfl, hx, hbc, hml, hown, hts, hSt, hc1, hc2, hf, hlo⟩ := C
  exact fun H locs ls hP hS hl => va_put hx hbc hts hin ty0 hty hnm hown hSt.1 hP (wsH_D h hSt.2.2.2.2.2.1) hS a (by rw [wsH_at E h ha.1, hce]) hcl j hj (hts _ hw) (fun _ h9 => h9) hfin hd hn hft hjl hdg (fun H1 locs1 hP1 _ hS1 => k H1 locs1 ls (by unfold Rp; rw [← he]; exact hP1) hS1 hl)
theorem g_iret (C : CX E X own cc nL d) {v : Int32} (hR : RT E X (some .int) (some (.int v)) h) (hdg : decode cc pc = .ok (.ireturn, 1)) : GG l E X h pc lv [.int v] := by
  obtain ⟨p, e, R, s, m, args, below, meth, c, ⟨cells, slots⟩, Q, nL'⟩ := X
  obtain ⟨rfl, hx, hbc, hml, hown, hts, hSt, hc1, hc2, hf, hlo⟩ := C
  obtain ⟨rfl, hr, hlk⟩ := hR
  exact fun H locs ls hP hS hl => W.iret hx hbc hr (fun t ht hW => ⟨rfl, by rw [ht]; exact hP, hS.F ht⟩) hS.2.2 hdg hlk
theorem nar_b {v : Int32} (hv : v = 0 ∨ v = 1) : narrow .boolean (.int v) = .int v := by rcases hv with rfl | rfl <;> rfl
theorem fit_b {v : Int32} (hv : v = 0 ∨ v = 1) : fits .boolean (.int v) = true := by rcases hv with rfl | rfl <;> rfl
theorem g_zret (C : CX E X own cc nL d) {v : Int32} (hv : v = 0 ∨ v = 1) (hR : RT E X (some .boolean) (some (.int v)) h) (hdg : decode cc pc = .ok (.ireturn, 1)) : GG l E X h pc lv [.int v] := by
  obtain ⟨p, e, R, s, m, args, below, meth, c, ⟨cells, slots⟩, Q, nL'⟩ := X
  obtain ⟨rfl, hx, hbc, hml, hown, hts, hSt, hc1, hc2, hf, hlo⟩ := C
  obtain ⟨rfl, hr, hlk⟩ := hR
  exact fun H locs ls hP hS hl => W.zret hx hbc hr (nar_b hv) (fun t ht hW => ⟨rfl, by rw [ht]; exact hP, hS.F ht⟩) hS.2.2 hdg hlk
theorem g_vret (C : CX E X own cc nL d) (hR : RT E X none none h) (hdg : decode cc pc = .ok (.return_, 1)) : GG l E X h pc lv [] := by
  obtain ⟨p, e, R, s, m, args, below, meth, c, ⟨cells, slots⟩, Q, nL'⟩ := X
  obtain ⟨rfl, hx, hbc, hml, hown, hts, hSt, hc1, hc2, hf, hlo⟩ := C
  obtain ⟨rfl, hr, hlk⟩ := hR
  exact fun H locs ls hP hS hl => W.vret hx hbc hr (fun t ht hW => ⟨rfl, by rw [ht]; exact hP, hS.F ht⟩) hS.2.2 hdg hlk
theorem bol_v {x y : Int32} (h : bol x = some y) : (y = 0 ∨ y = 1) ∧ y = x := by
  unfold bol at h
  by_cases q : x = 0 ∨ x = 1
  · rw [if_pos q] at h; cases h; exact ⟨q, rfl⟩
  · rw [if_neg q] at h; cases h
theorem g_sub (js : List Nat) (hlv : lv_pick lv js = lv') (k : GG l E X h pc lv' st) : GG l E X h pc lv st := by
  obtain ⟨p, e, R, s, m, args, below, meth, c, ⟨cells, slots⟩, Q, nL'⟩ := X
  exact fun H locs ls hP hS hl => k H locs ls hP hS (lv_sub hl js hlv)
end GQ
end
