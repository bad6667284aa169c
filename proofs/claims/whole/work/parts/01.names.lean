-- ===== PART A: goes FIRST, ahead of the names: the tables' words, and 'selects' of the private methods out of them =====
/-- a private method of a class that the tables say can be made, by its rows of tables_1 -/
def lw_okq (q : MethodName × Nat) : Prop := (q.1.cls ≠ "java/lang/invoke/MethodHandle" ∧ q.1.cls ≠ "java/lang/invoke/VarHandle") ∧ Cond.instantiable q.1.cls q.2 ∈ tables_1 ∧ Cond.privateMethod q.1 ∈ tables_1 ∧ Cond.instanceMethod q.1 ∈ tables_1
theorem lw_p0 : lw_okq (⟨"GaveTheDayBefore", "refuse", "(I)I"⟩, 10) := ⟨⟨by decide +kernel, by decide +kernel⟩, List.mem_of_getElem? (i := 11) (by decide +kernel), List.mem_of_getElem? (i := 169) (by decide +kernel), List.mem_of_getElem? (i := 170) (by decide +kernel)⟩
theorem lw_p1 : lw_okq (⟨"GaveTheDayBefore$Letters", "isFull", "()Z"⟩, 3) := ⟨⟨by decide +kernel, by decide +kernel⟩, List.mem_of_getElem? (i := 117) (by decide +kernel), List.mem_of_getElem? (i := 173) (by decide +kernel), List.mem_of_getElem? (i := 174) (by decide +kernel)⟩
theorem lw_p2 : lw_okq (⟨"GaveTheDayBefore$Letters", "add", "(I)I"⟩, 3) := ⟨⟨by decide +kernel, by decide +kernel⟩, List.mem_of_getElem? (i := 117) (by decide +kernel), List.mem_of_getElem? (i := 177) (by decide +kernel), List.mem_of_getElem? (i := 178) (by decide +kernel)⟩
theorem lw_p3 : lw_okq (⟨"GaveTheDayBefore", "readLand", "()I"⟩, 10) := ⟨⟨by decide +kernel, by decide +kernel⟩, List.mem_of_getElem? (i := 11) (by decide +kernel), List.mem_of_getElem? (i := 185) (by decide +kernel), List.mem_of_getElem? (i := 186) (by decide +kernel)⟩
theorem lw_p4 : lw_okq (⟨"GaveTheDayBefore$Letters", "firstUnfit", "()I"⟩, 3) := ⟨⟨by decide +kernel, by decide +kernel⟩, List.mem_of_getElem? (i := 117) (by decide +kernel), List.mem_of_getElem? (i := 189) (by decide +kernel), List.mem_of_getElem? (i := 190) (by decide +kernel)⟩
theorem lw_p5 : lw_okq (⟨"GaveTheDayBefore$Letters", "passesStatement", "()Z"⟩, 3) := ⟨⟨by decide +kernel, by decide +kernel⟩, List.mem_of_getElem? (i := 117) (by decide +kernel), List.mem_of_getElem? (i := 193) (by decide +kernel), List.mem_of_getElem? (i := 194) (by decide +kernel)⟩
theorem lw_p6 : lw_okq (⟨"GaveTheDayBefore$Letters", "passes", "(I)Z"⟩, 3) := ⟨⟨by decide +kernel, by decide +kernel⟩, List.mem_of_getElem? (i := 117) (by decide +kernel), List.mem_of_getElem? (i := 197) (by decide +kernel), List.mem_of_getElem? (i := 198) (by decide +kernel)⟩
theorem lw_p7 : lw_okq (⟨"GaveTheDayBefore$Letters", "isAt", "(II)Z"⟩, 3) := ⟨⟨by decide +kernel, by decide +kernel⟩, List.mem_of_getElem? (i := 117) (by decide +kernel), List.mem_of_getElem? (i := 201) (by decide +kernel), List.mem_of_getElem? (i := 202) (by decide +kernel)⟩
theorem lw_p8 : lw_okq (⟨"GaveTheDayBefore$Letters", "passesDigits", "(II)Z"⟩, 3) := ⟨⟨by decide +kernel, by decide +kernel⟩, List.mem_of_getElem? (i := 117) (by decide +kernel), List.mem_of_getElem? (i := 205) (by decide +kernel), List.mem_of_getElem? (i := 206) (by decide +kernel)⟩
theorem lw_p9 : lw_okq (⟨"GaveTheDayBefore$Letters", "isDigitAt", "(I)Z"⟩, 3) := ⟨⟨by decide +kernel, by decide +kernel⟩, List.mem_of_getElem? (i := 117) (by decide +kernel), List.mem_of_getElem? (i := 209) (by decide +kernel), List.mem_of_getElem? (i := 210) (by decide +kernel)⟩
theorem lw_p10 : lw_okq (⟨"GaveTheDayBefore$Village", "become", "(LGaveTheDayBefore$Village;)V"⟩, 9) := ⟨⟨by decide +kernel, by decide +kernel⟩, List.mem_of_getElem? (i := 19) (by decide +kernel), List.mem_of_getElem? (i := 213) (by decide +kernel), List.mem_of_getElem? (i := 214) (by decide +kernel)⟩
theorem lw_p11 : lw_okq (⟨"GaveTheDayBefore$Gifts", "become", "(LGaveTheDayBefore$Gifts;)V"⟩, 3) := ⟨⟨by decide +kernel, by decide +kernel⟩, List.mem_of_getElem? (i := 25) (by decide +kernel), List.mem_of_getElem? (i := 220) (by decide +kernel), List.mem_of_getElem? (i := 221) (by decide +kernel)⟩
theorem lw_p12 : lw_okq (⟨"GaveTheDayBefore", "comesInMind", "(I)Z"⟩, 10) := ⟨⟨by decide +kernel, by decide +kernel⟩, List.mem_of_getElem? (i := 11) (by decide +kernel), List.mem_of_getElem? (i := 225) (by decide +kernel), List.mem_of_getElem? (i := 226) (by decide +kernel)⟩
theorem lw_p13 : lw_okq (⟨"GaveTheDayBefore$Letters", "digit", "(I)I"⟩, 3) := ⟨⟨by decide +kernel, by decide +kernel⟩, List.mem_of_getElem? (i := 117) (by decide +kernel), List.mem_of_getElem? (i := 229) (by decide +kernel), List.mem_of_getElem? (i := 230) (by decide +kernel)⟩
theorem lw_p14 : lw_okq (⟨"GaveTheDayBefore$Village", "takeLaw", "(III)Z"⟩, 9) := ⟨⟨by decide +kernel, by decide +kernel⟩, List.mem_of_getElem? (i := 19) (by decide +kernel), List.mem_of_getElem? (i := 234) (by decide +kernel), List.mem_of_getElem? (i := 235) (by decide +kernel)⟩
theorem lw_p15 : lw_okq (⟨"GaveTheDayBefore$Village", "changeSetting", "(II)I"⟩, 9) := ⟨⟨by decide +kernel, by decide +kernel⟩, List.mem_of_getElem? (i := 19) (by decide +kernel), List.mem_of_getElem? (i := 245) (by decide +kernel), List.mem_of_getElem? (i := 246) (by decide +kernel)⟩
def lw_privs_1 : List (MethodName × Nat) := [(⟨"GaveTheDayBefore", "refuse", "(I)I"⟩, 10), (⟨"GaveTheDayBefore$Letters", "isFull", "()Z"⟩, 3), (⟨"GaveTheDayBefore$Letters", "add", "(I)I"⟩, 3), (⟨"GaveTheDayBefore", "readLand", "()I"⟩, 10), (⟨"GaveTheDayBefore$Letters", "firstUnfit", "()I"⟩, 3), (⟨"GaveTheDayBefore$Letters", "passesStatement", "()Z"⟩, 3), (⟨"GaveTheDayBefore$Letters", "passes", "(I)Z"⟩, 3), (⟨"GaveTheDayBefore$Letters", "isAt", "(II)Z"⟩, 3), (⟨"GaveTheDayBefore$Letters", "passesDigits", "(II)Z"⟩, 3), (⟨"GaveTheDayBefore$Letters", "isDigitAt", "(I)Z"⟩, 3), (⟨"GaveTheDayBefore$Village", "become", "(LGaveTheDayBefore$Village;)V"⟩, 9), (⟨"GaveTheDayBefore$Gifts", "become", "(LGaveTheDayBefore$Gifts;)V"⟩, 3), (⟨"GaveTheDayBefore", "comesInMind", "(I)Z"⟩, 10), (⟨"GaveTheDayBefore$Letters", "digit", "(I)I"⟩, 3), (⟨"GaveTheDayBefore$Village", "takeLaw", "(III)Z"⟩, 9), (⟨"GaveTheDayBefore$Village", "changeSetting", "(II)I"⟩, 9)]
theorem lw_r1 : ∀ q ∈ lw_privs_1, lw_okq q := List.forall_mem_cons.mpr ⟨lw_p0, List.forall_mem_cons.mpr ⟨lw_p1, List.forall_mem_cons.mpr ⟨lw_p2, List.forall_mem_cons.mpr ⟨lw_p3, List.forall_mem_cons.mpr ⟨lw_p4, List.forall_mem_cons.mpr ⟨lw_p5, List.forall_mem_cons.mpr ⟨lw_p6, List.forall_mem_cons.mpr ⟨lw_p7, List.forall_mem_cons.mpr ⟨lw_p8, List.forall_mem_cons.mpr ⟨lw_p9, List.forall_mem_cons.mpr ⟨lw_p10, List.forall_mem_cons.mpr ⟨lw_p11, List.forall_mem_cons.mpr ⟨lw_p12, List.forall_mem_cons.mpr ⟨lw_p13, List.forall_mem_cons.mpr ⟨lw_p14, List.forall_mem_cons.mpr ⟨lw_p15, fun _ h => absurd h List.not_mem_nil⟩⟩⟩⟩⟩⟩⟩⟩⟩⟩⟩⟩⟩⟩⟩⟩
theorem lw_p16 : lw_okq (⟨"GaveTheDayBefore$Gifts", "countPastDays", "(I)V"⟩, 3) := ⟨⟨by decide +kernel, by decide +kernel⟩, List.mem_of_getElem? (i := 25) (by decide +kernel), List.mem_of_getElem? (i := 249) (by decide +kernel), List.mem_of_getElem? (i := 250) (by decide +kernel)⟩
theorem lw_p17 : lw_okq (⟨"GaveTheDayBefore$Gifts", "countDay", "(II)V"⟩, 3) := ⟨⟨by decide +kernel, by decide +kernel⟩, List.mem_of_getElem? (i := 25) (by decide +kernel), List.mem_of_getElem? (i := 253) (by decide +kernel), List.mem_of_getElem? (i := 254) (by decide +kernel)⟩
theorem lw_p18 : lw_okq (⟨"GaveTheDayBefore$Gifts", "countOf", "(IIJ)I"⟩, 3) := ⟨⟨by decide +kernel, by decide +kernel⟩, List.mem_of_getElem? (i := 25) (by decide +kernel), List.mem_of_getElem? (i := 257) (by decide +kernel), List.mem_of_getElem? (i := 258) (by decide +kernel)⟩
theorem lw_p19 : lw_okq (⟨"GaveTheDayBefore$Letters", "number", "(I)I"⟩, 3) := ⟨⟨by decide +kernel, by decide +kernel⟩, List.mem_of_getElem? (i := 117) (by decide +kernel), List.mem_of_getElem? (i := 261) (by decide +kernel), List.mem_of_getElem? (i := 262) (by decide +kernel)⟩
theorem lw_p20 : lw_okq (⟨"GaveTheDayBefore$Letters", "next", "(II)I"⟩, 3) := ⟨⟨by decide +kernel, by decide +kernel⟩, List.mem_of_getElem? (i := 117) (by decide +kernel), List.mem_of_getElem? (i := 266) (by decide +kernel), List.mem_of_getElem? (i := 267) (by decide +kernel)⟩
theorem lw_p21 : lw_okq (⟨"GaveTheDayBefore$Village", "welcome", "(IIIII)Z"⟩, 9) := ⟨⟨by decide +kernel, by decide +kernel⟩, List.mem_of_getElem? (i := 19) (by decide +kernel), List.mem_of_getElem? (i := 270) (by decide +kernel), List.mem_of_getElem? (i := 271) (by decide +kernel)⟩
theorem lw_p22 : lw_okq (⟨"GaveTheDayBefore$Letters", "forget", "()V"⟩, 3) := ⟨⟨by decide +kernel, by decide +kernel⟩, List.mem_of_getElem? (i := 117) (by decide +kernel), List.mem_of_getElem? (i := 274) (by decide +kernel), List.mem_of_getElem? (i := 275) (by decide +kernel)⟩
theorem lw_p23 : lw_okq (⟨"GaveTheDayBefore$Village", "exists", "(I)Z"⟩, 9) := ⟨⟨by decide +kernel, by decide +kernel⟩, List.mem_of_getElem? (i := 19) (by decide +kernel), List.mem_of_getElem? (i := 282) (by decide +kernel), List.mem_of_getElem? (i := 283) (by decide +kernel)⟩
theorem lw_p24 : lw_okq (⟨"GaveTheDayBefore$Gifts", "gotToday", "(I)I"⟩, 3) := ⟨⟨by decide +kernel, by decide +kernel⟩, List.mem_of_getElem? (i := 25) (by decide +kernel), List.mem_of_getElem? (i := 286) (by decide +kernel), List.mem_of_getElem? (i := 287) (by decide +kernel)⟩
theorem lw_p25 : lw_okq (⟨"GaveTheDayBefore$Gifts", "got", "(II)I"⟩, 3) := ⟨⟨by decide +kernel, by decide +kernel⟩, List.mem_of_getElem? (i := 25) (by decide +kernel), List.mem_of_getElem? (i := 290) (by decide +kernel), List.mem_of_getElem? (i := 291) (by decide +kernel)⟩
theorem lw_p26 : lw_okq (⟨"GaveTheDayBefore$Village", "leave", "(I)I"⟩, 9) := ⟨⟨by decide +kernel, by decide +kernel⟩, List.mem_of_getElem? (i := 19) (by decide +kernel), List.mem_of_getElem? (i := 294) (by decide +kernel), List.mem_of_getElem? (i := 295) (by decide +kernel)⟩
theorem lw_p27 : lw_okq (⟨"GaveTheDayBefore$Gifts", "countedYesterday", "(I)I"⟩, 3) := ⟨⟨by decide +kernel, by decide +kernel⟩, List.mem_of_getElem? (i := 25) (by decide +kernel), List.mem_of_getElem? (i := 298) (by decide +kernel), List.mem_of_getElem? (i := 299) (by decide +kernel)⟩
theorem lw_p28 : lw_okq (⟨"GaveTheDayBefore$Village", "bounded", "(I)I"⟩, 9) := ⟨⟨by decide +kernel, by decide +kernel⟩, List.mem_of_getElem? (i := 19) (by decide +kernel), List.mem_of_getElem? (i := 302) (by decide +kernel), List.mem_of_getElem? (i := 303) (by decide +kernel)⟩
theorem lw_p29 : lw_okq (⟨"GaveTheDayBefore$Gifts", "countedTogether", "(II)I"⟩, 3) := ⟨⟨by decide +kernel, by decide +kernel⟩, List.mem_of_getElem? (i := 25) (by decide +kernel), List.mem_of_getElem? (i := 312) (by decide +kernel), List.mem_of_getElem? (i := 313) (by decide +kernel)⟩
theorem lw_p30 : lw_okq (⟨"GaveTheDayBefore$Gifts", "countedAtBest", "(II)I"⟩, 3) := ⟨⟨by decide +kernel, by decide +kernel⟩, List.mem_of_getElem? (i := 25) (by decide +kernel), List.mem_of_getElem? (i := 316) (by decide +kernel), List.mem_of_getElem? (i := 317) (by decide +kernel)⟩
theorem lw_p31 : lw_okq (⟨"GaveTheDayBefore$Gifts", "givenToday", "(I)I"⟩, 3) := ⟨⟨by decide +kernel, by decide +kernel⟩, List.mem_of_getElem? (i := 25) (by decide +kernel), List.mem_of_getElem? (i := 321) (by decide +kernel), List.mem_of_getElem? (i := 322) (by decide +kernel)⟩
def lw_privs_2 : List (MethodName × Nat) := [(⟨"GaveTheDayBefore$Gifts", "countPastDays", "(I)V"⟩, 3), (⟨"GaveTheDayBefore$Gifts", "countDay", "(II)V"⟩, 3), (⟨"GaveTheDayBefore$Gifts", "countOf", "(IIJ)I"⟩, 3), (⟨"GaveTheDayBefore$Letters", "number", "(I)I"⟩, 3), (⟨"GaveTheDayBefore$Letters", "next", "(II)I"⟩, 3), (⟨"GaveTheDayBefore$Village", "welcome", "(IIIII)Z"⟩, 9), (⟨"GaveTheDayBefore$Letters", "forget", "()V"⟩, 3), (⟨"GaveTheDayBefore$Village", "exists", "(I)Z"⟩, 9), (⟨"GaveTheDayBefore$Gifts", "gotToday", "(I)I"⟩, 3), (⟨"GaveTheDayBefore$Gifts", "got", "(II)I"⟩, 3), (⟨"GaveTheDayBefore$Village", "leave", "(I)I"⟩, 9), (⟨"GaveTheDayBefore$Gifts", "countedYesterday", "(I)I"⟩, 3), (⟨"GaveTheDayBefore$Village", "bounded", "(I)I"⟩, 9), (⟨"GaveTheDayBefore$Gifts", "countedTogether", "(II)I"⟩, 3), (⟨"GaveTheDayBefore$Gifts", "countedAtBest", "(II)I"⟩, 3), (⟨"GaveTheDayBefore$Gifts", "givenToday", "(I)I"⟩, 3)]
theorem lw_r2 : ∀ q ∈ lw_privs_2, lw_okq q := List.forall_mem_cons.mpr ⟨lw_p16, List.forall_mem_cons.mpr ⟨lw_p17, List.forall_mem_cons.mpr ⟨lw_p18, List.forall_mem_cons.mpr ⟨lw_p19, List.forall_mem_cons.mpr ⟨lw_p20, List.forall_mem_cons.mpr ⟨lw_p21, List.forall_mem_cons.mpr ⟨lw_p22, List.forall_mem_cons.mpr ⟨lw_p23, List.forall_mem_cons.mpr ⟨lw_p24, List.forall_mem_cons.mpr ⟨lw_p25, List.forall_mem_cons.mpr ⟨lw_p26, List.forall_mem_cons.mpr ⟨lw_p27, List.forall_mem_cons.mpr ⟨lw_p28, List.forall_mem_cons.mpr ⟨lw_p29, List.forall_mem_cons.mpr ⟨lw_p30, List.forall_mem_cons.mpr ⟨lw_p31, fun _ h => absurd h List.not_mem_nil⟩⟩⟩⟩⟩⟩⟩⟩⟩⟩⟩⟩⟩⟩⟩⟩
theorem lw_p32 : lw_okq (⟨"GaveTheDayBefore", "putRefusal", "(III)I"⟩, 10) := ⟨⟨by decide +kernel, by decide +kernel⟩, List.mem_of_getElem? (i := 11) (by decide +kernel), List.mem_of_getElem? (i := 330) (by decide +kernel), List.mem_of_getElem? (i := 331) (by decide +kernel)⟩
theorem lw_p33 : lw_okq (⟨"GaveTheDayBefore$Village", "giftRefusal", "(III)I"⟩, 9) := ⟨⟨by decide +kernel, by decide +kernel⟩, List.mem_of_getElem? (i := 19) (by decide +kernel), List.mem_of_getElem? (i := 346) (by decide +kernel), List.mem_of_getElem? (i := 347) (by decide +kernel)⟩
theorem lw_p34 : lw_okq (⟨"GaveTheDayBefore$Village", "hand", "(III)V"⟩, 9) := ⟨⟨by decide +kernel, by decide +kernel⟩, List.mem_of_getElem? (i := 19) (by decide +kernel), List.mem_of_getElem? (i := 351) (by decide +kernel), List.mem_of_getElem? (i := 352) (by decide +kernel)⟩
theorem lw_p35 : lw_okq (⟨"GaveTheDayBefore$Gifts", "add", "(III)V"⟩, 3) := ⟨⟨by decide +kernel, by decide +kernel⟩, List.mem_of_getElem? (i := 25) (by decide +kernel), List.mem_of_getElem? (i := 355) (by decide +kernel), List.mem_of_getElem? (i := 356) (by decide +kernel)⟩
theorem lw_p36 : lw_okq (⟨"GaveTheDayBefore$Village", "endDay", "()I"⟩, 9) := ⟨⟨by decide +kernel, by decide +kernel⟩, List.mem_of_getElem? (i := 19) (by decide +kernel), List.mem_of_getElem? (i := 363) (by decide +kernel), List.mem_of_getElem? (i := 364) (by decide +kernel)⟩
theorem lw_p37 : lw_okq (⟨"GaveTheDayBefore$Gifts", "turnToNextDay", "()V"⟩, 3) := ⟨⟨by decide +kernel, by decide +kernel⟩, List.mem_of_getElem? (i := 25) (by decide +kernel), List.mem_of_getElem? (i := 370) (by decide +kernel), List.mem_of_getElem? (i := 371) (by decide +kernel)⟩
theorem lw_p38 : lw_okq (⟨"GaveTheDayBefore$Village", "passDay", "()I"⟩, 9) := ⟨⟨by decide +kernel, by decide +kernel⟩, List.mem_of_getElem? (i := 19) (by decide +kernel), List.mem_of_getElem? (i := 378) (by decide +kernel), List.mem_of_getElem? (i := 379) (by decide +kernel)⟩
theorem lw_p39 : lw_okq (⟨"GaveTheDayBefore$Village", "takerByKind", "(I)I"⟩, 9) := ⟨⟨by decide +kernel, by decide +kernel⟩, List.mem_of_getElem? (i := 19) (by decide +kernel), List.mem_of_getElem? (i := 382) (by decide +kernel), List.mem_of_getElem? (i := 383) (by decide +kernel)⟩
theorem lw_p40 : lw_okq (⟨"GaveTheDayBefore$Village", "nextOne", "(I)I"⟩, 9) := ⟨⟨by decide +kernel, by decide +kernel⟩, List.mem_of_getElem? (i := 19) (by decide +kernel), List.mem_of_getElem? (i := 386) (by decide +kernel), List.mem_of_getElem? (i := 387) (by decide +kernel)⟩
theorem lw_p41 : lw_okq (⟨"GaveTheDayBefore$Village", "amountByKind", "(I)I"⟩, 9) := ⟨⟨by decide +kernel, by decide +kernel⟩, List.mem_of_getElem? (i := 19) (by decide +kernel), List.mem_of_getElem? (i := 390) (by decide +kernel), List.mem_of_getElem? (i := 391) (by decide +kernel)⟩
theorem lw_p42 : lw_okq (⟨"GaveTheDayBefore$Village", "whatGrew", "(I)I"⟩, 9) := ⟨⟨by decide +kernel, by decide +kernel⟩, List.mem_of_getElem? (i := 19) (by decide +kernel), List.mem_of_getElem? (i := 394) (by decide +kernel), List.mem_of_getElem? (i := 395) (by decide +kernel)⟩
theorem lw_p43 : lw_okq (⟨"GaveTheDayBefore$Gifts", "gotYesterday", "(I)I"⟩, 3) := ⟨⟨by decide +kernel, by decide +kernel⟩, List.mem_of_getElem? (i := 25) (by decide +kernel), List.mem_of_getElem? (i := 398) (by decide +kernel), List.mem_of_getElem? (i := 399) (by decide +kernel)⟩
theorem lw_p44 : lw_okq (⟨"GaveTheDayBefore$Village", "handIfAny", "(III)V"⟩, 9) := ⟨⟨by decide +kernel, by decide +kernel⟩, List.mem_of_getElem? (i := 19) (by decide +kernel), List.mem_of_getElem? (i := 405) (by decide +kernel), List.mem_of_getElem? (i := 406) (by decide +kernel)⟩
theorem lw_p45 : lw_okq (⟨"GaveTheDayBefore$Village", "giftByKind", "(I)I"⟩, 9) := ⟨⟨by decide +kernel, by decide +kernel⟩, List.mem_of_getElem? (i := 19) (by decide +kernel), List.mem_of_getElem? (i := 415) (by decide +kernel), List.mem_of_getElem? (i := 416) (by decide +kernel)⟩
theorem lw_p46 : lw_okq (⟨"GaveTheDayBefore", "ofOneRefusal", "(IIII)I"⟩, 10) := ⟨⟨by decide +kernel, by decide +kernel⟩, List.mem_of_getElem? (i := 11) (by decide +kernel), List.mem_of_getElem? (i := 423) (by decide +kernel), List.mem_of_getElem? (i := 424) (by decide +kernel)⟩
theorem lw_p47 : lw_okq (⟨"GaveTheDayBefore", "think", "(I)V"⟩, 10) := ⟨⟨by decide +kernel, by decide +kernel⟩, List.mem_of_getElem? (i := 11) (by decide +kernel), List.mem_of_getElem? (i := 427) (by decide +kernel), List.mem_of_getElem? (i := 428) (by decide +kernel)⟩
def lw_privs_3 : List (MethodName × Nat) := [(⟨"GaveTheDayBefore", "putRefusal", "(III)I"⟩, 10), (⟨"GaveTheDayBefore$Village", "giftRefusal", "(III)I"⟩, 9), (⟨"GaveTheDayBefore$Village", "hand", "(III)V"⟩, 9), (⟨"GaveTheDayBefore$Gifts", "add", "(III)V"⟩, 3), (⟨"GaveTheDayBefore$Village", "endDay", "()I"⟩, 9), (⟨"GaveTheDayBefore$Gifts", "turnToNextDay", "()V"⟩, 3), (⟨"GaveTheDayBefore$Village", "passDay", "()I"⟩, 9), (⟨"GaveTheDayBefore$Village", "takerByKind", "(I)I"⟩, 9), (⟨"GaveTheDayBefore$Village", "nextOne", "(I)I"⟩, 9), (⟨"GaveTheDayBefore$Village", "amountByKind", "(I)I"⟩, 9), (⟨"GaveTheDayBefore$Village", "whatGrew", "(I)I"⟩, 9), (⟨"GaveTheDayBefore$Gifts", "gotYesterday", "(I)I"⟩, 3), (⟨"GaveTheDayBefore$Village", "handIfAny", "(III)V"⟩, 9), (⟨"GaveTheDayBefore$Village", "giftByKind", "(I)I"⟩, 9), (⟨"GaveTheDayBefore", "ofOneRefusal", "(IIII)I"⟩, 10), (⟨"GaveTheDayBefore", "think", "(I)V"⟩, 10)]
theorem lw_r3 : ∀ q ∈ lw_privs_3, lw_okq q := List.forall_mem_cons.mpr ⟨lw_p32, List.forall_mem_cons.mpr ⟨lw_p33, List.forall_mem_cons.mpr ⟨lw_p34, List.forall_mem_cons.mpr ⟨lw_p35, List.forall_mem_cons.mpr ⟨lw_p36, List.forall_mem_cons.mpr ⟨lw_p37, List.forall_mem_cons.mpr ⟨lw_p38, List.forall_mem_cons.mpr ⟨lw_p39, List.forall_mem_cons.mpr ⟨lw_p40, List.forall_mem_cons.mpr ⟨lw_p41, List.forall_mem_cons.mpr ⟨lw_p42, List.forall_mem_cons.mpr ⟨lw_p43, List.forall_mem_cons.mpr ⟨lw_p44, List.forall_mem_cons.mpr ⟨lw_p45, List.forall_mem_cons.mpr ⟨lw_p46, List.forall_mem_cons.mpr ⟨lw_p47, fun _ h => absurd h List.not_mem_nil⟩⟩⟩⟩⟩⟩⟩⟩⟩⟩⟩⟩⟩⟩⟩⟩
theorem lw_p48 : lw_okq (⟨"GaveTheDayBefore$Village", "passDays", "(I)V"⟩, 9) := ⟨⟨by decide +kernel, by decide +kernel⟩, List.mem_of_getElem? (i := 19) (by decide +kernel), List.mem_of_getElem? (i := 431) (by decide +kernel), List.mem_of_getElem? (i := 432) (by decide +kernel)⟩
theorem lw_p49 : lw_okq (⟨"GaveTheDayBefore$Village", "sumOfHas", "()I"⟩, 9) := ⟨⟨by decide +kernel, by decide +kernel⟩, List.mem_of_getElem? (i := 19) (by decide +kernel), List.mem_of_getElem? (i := 440) (by decide +kernel), List.mem_of_getElem? (i := 441) (by decide +kernel)⟩
theorem lw_p50 : lw_okq (⟨"GaveTheDayBefore$Village", "richestAbove", "(I)I"⟩, 9) := ⟨⟨by decide +kernel, by decide +kernel⟩, List.mem_of_getElem? (i := 19) (by decide +kernel), List.mem_of_getElem? (i := 452) (by decide +kernel), List.mem_of_getElem? (i := 453) (by decide +kernel)⟩
theorem lw_p51 : lw_okq (⟨"GaveTheDayBefore", "quietDayInMind", "()Z"⟩, 10) := ⟨⟨by decide +kernel, by decide +kernel⟩, List.mem_of_getElem? (i := 11) (by decide +kernel), List.mem_of_getElem? (i := 468) (by decide +kernel), List.mem_of_getElem? (i := 469) (by decide +kernel)⟩
theorem lw_p52 : lw_okq (⟨"GaveTheDayBefore$Search", "run", "(LGaveTheDayBefore$Village;III)V"⟩, 8) := ⟨⟨by decide +kernel, by decide +kernel⟩, List.mem_of_getElem? (i := 80) (by decide +kernel), List.mem_of_getElem? (i := 477) (by decide +kernel), List.mem_of_getElem? (i := 478) (by decide +kernel)⟩
theorem lw_p53 : lw_okq (⟨"GaveTheDayBefore$Search", "look", "(I)V"⟩, 8) := ⟨⟨by decide +kernel, by decide +kernel⟩, List.mem_of_getElem? (i := 80) (by decide +kernel), List.mem_of_getElem? (i := 486) (by decide +kernel), List.mem_of_getElem? (i := 487) (by decide +kernel)⟩
theorem lw_p54 : lw_okq (⟨"GaveTheDayBefore$Village", "passDayOfOne", "(II)V"⟩, 9) := ⟨⟨by decide +kernel, by decide +kernel⟩, List.mem_of_getElem? (i := 19) (by decide +kernel), List.mem_of_getElem? (i := 491) (by decide +kernel), List.mem_of_getElem? (i := 492) (by decide +kernel)⟩
theorem lw_p55 : lw_okq (⟨"GaveTheDayBefore", "ofOneTwiceRefusal", "(III)I"⟩, 10) := ⟨⟨by decide +kernel, by decide +kernel⟩, List.mem_of_getElem? (i := 11) (by decide +kernel), List.mem_of_getElem? (i := 508) (by decide +kernel), List.mem_of_getElem? (i := 509) (by decide +kernel)⟩
theorem lw_p56 : lw_okq (⟨"GaveTheDayBefore$Village", "whoCannotBegin", "()I"⟩, 9) := ⟨⟨by decide +kernel, by decide +kernel⟩, List.mem_of_getElem? (i := 19) (by decide +kernel), List.mem_of_getElem? (i := 516) (by decide +kernel), List.mem_of_getElem? (i := 517) (by decide +kernel)⟩
theorem lw_p57 : lw_okq (⟨"GaveTheDayBefore$Village", "isSomebodysTaker", "(I)Z"⟩, 9) := ⟨⟨by decide +kernel, by decide +kernel⟩, List.mem_of_getElem? (i := 19) (by decide +kernel), List.mem_of_getElem? (i := 520) (by decide +kernel), List.mem_of_getElem? (i := 521) (by decide +kernel)⟩
theorem lw_p58 : lw_okq (⟨"GaveTheDayBefore", "hasByLaw", "(III)I"⟩, 10) := ⟨⟨by decide +kernel, by decide +kernel⟩, List.mem_of_getElem? (i := 11) (by decide +kernel), List.mem_of_getElem? (i := 538) (by decide +kernel), List.mem_of_getElem? (i := 539) (by decide +kernel)⟩
theorem lw_p59 : lw_okq (⟨"GaveTheDayBefore", "lookAtBook", "(IZ)I"⟩, 10) := ⟨⟨by decide +kernel, by decide +kernel⟩, List.mem_of_getElem? (i := 11) (by decide +kernel), List.mem_of_getElem? (i := 558) (by decide +kernel), List.mem_of_getElem? (i := 559) (by decide +kernel)⟩
theorem lw_p60 : lw_okq (⟨"GaveTheDayBefore", "firstImpossibleGift", "()I"⟩, 10) := ⟨⟨by decide +kernel, by decide +kernel⟩, List.mem_of_getElem? (i := 11) (by decide +kernel), List.mem_of_getElem? (i := 570) (by decide +kernel), List.mem_of_getElem? (i := 571) (by decide +kernel)⟩
theorem lw_p61 : lw_okq (⟨"GaveTheDayBefore$Village", "find", "(II)V"⟩, 9) := ⟨⟨by decide +kernel, by decide +kernel⟩, List.mem_of_getElem? (i := 19) (by decide +kernel), List.mem_of_getElem? (i := 587) (by decide +kernel), List.mem_of_getElem? (i := 588) (by decide +kernel)⟩
theorem lw_p62 : lw_okq (⟨"GaveTheDayBefore$Village", "sumOfLying", "()I"⟩, 9) := ⟨⟨by decide +kernel, by decide +kernel⟩, List.mem_of_getElem? (i := 19) (by decide +kernel), List.mem_of_getElem? (i := 603) (by decide +kernel), List.mem_of_getElem? (i := 604) (by decide +kernel)⟩
theorem lw_p63 : lw_okq (⟨"GaveTheDayBefore$Village", "sumOfGiven", "()I"⟩, 9) := ⟨⟨by decide +kernel, by decide +kernel⟩, List.mem_of_getElem? (i := 19) (by decide +kernel), List.mem_of_getElem? (i := 607) (by decide +kernel), List.mem_of_getElem? (i := 608) (by decide +kernel)⟩
def lw_privs_4 : List (MethodName × Nat) := [(⟨"GaveTheDayBefore$Village", "passDays", "(I)V"⟩, 9), (⟨"GaveTheDayBefore$Village", "sumOfHas", "()I"⟩, 9), (⟨"GaveTheDayBefore$Village", "richestAbove", "(I)I"⟩, 9), (⟨"GaveTheDayBefore", "quietDayInMind", "()Z"⟩, 10), (⟨"GaveTheDayBefore$Search", "run", "(LGaveTheDayBefore$Village;III)V"⟩, 8), (⟨"GaveTheDayBefore$Search", "look", "(I)V"⟩, 8), (⟨"GaveTheDayBefore$Village", "passDayOfOne", "(II)V"⟩, 9), (⟨"GaveTheDayBefore", "ofOneTwiceRefusal", "(III)I"⟩, 10), (⟨"GaveTheDayBefore$Village", "whoCannotBegin", "()I"⟩, 9), (⟨"GaveTheDayBefore$Village", "isSomebodysTaker", "(I)Z"⟩, 9), (⟨"GaveTheDayBefore", "hasByLaw", "(III)I"⟩, 10), (⟨"GaveTheDayBefore", "lookAtBook", "(IZ)I"⟩, 10), (⟨"GaveTheDayBefore", "firstImpossibleGift", "()I"⟩, 10), (⟨"GaveTheDayBefore$Village", "find", "(II)V"⟩, 9), (⟨"GaveTheDayBefore$Village", "sumOfLying", "()I"⟩, 9), (⟨"GaveTheDayBefore$Village", "sumOfGiven", "()I"⟩, 9)]
theorem lw_r4 : ∀ q ∈ lw_privs_4, lw_okq q := List.forall_mem_cons.mpr ⟨lw_p48, List.forall_mem_cons.mpr ⟨lw_p49, List.forall_mem_cons.mpr ⟨lw_p50, List.forall_mem_cons.mpr ⟨lw_p51, List.forall_mem_cons.mpr ⟨lw_p52, List.forall_mem_cons.mpr ⟨lw_p53, List.forall_mem_cons.mpr ⟨lw_p54, List.forall_mem_cons.mpr ⟨lw_p55, List.forall_mem_cons.mpr ⟨lw_p56, List.forall_mem_cons.mpr ⟨lw_p57, List.forall_mem_cons.mpr ⟨lw_p58, List.forall_mem_cons.mpr ⟨lw_p59, List.forall_mem_cons.mpr ⟨lw_p60, List.forall_mem_cons.mpr ⟨lw_p61, List.forall_mem_cons.mpr ⟨lw_p62, List.forall_mem_cons.mpr ⟨lw_p63, fun _ h => absurd h List.not_mem_nil⟩⟩⟩⟩⟩⟩⟩⟩⟩⟩⟩⟩⟩⟩⟩⟩
theorem lw_p64 : lw_okq (⟨"GaveTheDayBeforeModel", "refuse", "(I)I"⟩, 39) := ⟨⟨by decide +kernel, by decide +kernel⟩, List.mem_of_getElem? (i := 612) (by decide +kernel), List.mem_of_getElem? (i := 740) (by decide +kernel), List.mem_of_getElem? (i := 741) (by decide +kernel)⟩
theorem lw_p65 : lw_okq (⟨"GaveTheDayBeforeModel", "readStatement", "()V"⟩, 39) := ⟨⟨by decide +kernel, by decide +kernel⟩, List.mem_of_getElem? (i := 612) (by decide +kernel), List.mem_of_getElem? (i := 748) (by decide +kernel), List.mem_of_getElem? (i := 749) (by decide +kernel)⟩
theorem lw_p66 : lw_okq (⟨"GaveTheDayBeforeModel", "here", "()I"⟩, 39) := ⟨⟨by decide +kernel, by decide +kernel⟩, List.mem_of_getElem? (i := 612) (by decide +kernel), List.mem_of_getElem? (i := 752) (by decide +kernel), List.mem_of_getElem? (i := 753) (by decide +kernel)⟩
theorem lw_p67 : lw_okq (⟨"GaveTheDayBeforeModel", "readDigit", "()I"⟩, 39) := ⟨⟨by decide +kernel, by decide +kernel⟩, List.mem_of_getElem? (i := 612) (by decide +kernel), List.mem_of_getElem? (i := 756) (by decide +kernel), List.mem_of_getElem? (i := 757) (by decide +kernel)⟩
theorem lw_p68 : lw_okq (⟨"GaveTheDayBeforeModel", "readNumber", "(I)I"⟩, 39) := ⟨⟨by decide +kernel, by decide +kernel⟩, List.mem_of_getElem? (i := 612) (by decide +kernel), List.mem_of_getElem? (i := 765) (by decide +kernel), List.mem_of_getElem? (i := 766) (by decide +kernel)⟩
theorem lw_p69 : lw_okq (⟨"GaveTheDayBeforeModel", "take", "(I)V"⟩, 39) := ⟨⟨by decide +kernel, by decide +kernel⟩, List.mem_of_getElem? (i := 612) (by decide +kernel), List.mem_of_getElem? (i := 769) (by decide +kernel), List.mem_of_getElem? (i := 770) (by decide +kernel)⟩
theorem lw_p70 : lw_okq (⟨"GaveTheDayBeforeModel", "isGood", "(I)Z"⟩, 39) := ⟨⟨by decide +kernel, by decide +kernel⟩, List.mem_of_getElem? (i := 612) (by decide +kernel), List.mem_of_getElem? (i := 773) (by decide +kernel), List.mem_of_getElem? (i := 774) (by decide +kernel)⟩
theorem lw_p71 : lw_okq (⟨"GaveTheDayBeforeModel", "comes", "(I)V"⟩, 39) := ⟨⟨by decide +kernel, by decide +kernel⟩, List.mem_of_getElem? (i := 612) (by decide +kernel), List.mem_of_getElem? (i := 778) (by decide +kernel), List.mem_of_getElem? (i := 779) (by decide +kernel)⟩
theorem lw_p72 : lw_okq (⟨"GaveTheDayBeforeModel", "isOne", "(I)Z"⟩, 39) := ⟨⟨by decide +kernel, by decide +kernel⟩, List.mem_of_getElem? (i := 612) (by decide +kernel), List.mem_of_getElem? (i := 786) (by decide +kernel), List.mem_of_getElem? (i := 787) (by decide +kernel)⟩
theorem lw_p73 : lw_okq (⟨"GaveTheDayBeforeModel", "got", "(II)I"⟩, 39) := ⟨⟨by decide +kernel, by decide +kernel⟩, List.mem_of_getElem? (i := 612) (by decide +kernel), List.mem_of_getElem? (i := 791) (by decide +kernel), List.mem_of_getElem? (i := 792) (by decide +kernel)⟩
theorem lw_p74 : lw_okq (⟨"GaveTheDayBeforeModel", "gift", "(III)I"⟩, 39) := ⟨⟨by decide +kernel, by decide +kernel⟩, List.mem_of_getElem? (i := 612) (by decide +kernel), List.mem_of_getElem? (i := 795) (by decide +kernel), List.mem_of_getElem? (i := 796) (by decide +kernel)⟩
theorem lw_p75 : lw_okq (⟨"GaveTheDayBeforeModel", "leave", "(I)I"⟩, 39) := ⟨⟨by decide +kernel, by decide +kernel⟩, List.mem_of_getElem? (i := 612) (by decide +kernel), List.mem_of_getElem? (i := 799) (by decide +kernel), List.mem_of_getElem? (i := 800) (by decide +kernel)⟩
theorem lw_p76 : lw_okq (⟨"GaveTheDayBeforeModel", "counted", "(II)I"⟩, 39) := ⟨⟨by decide +kernel, by decide +kernel⟩, List.mem_of_getElem? (i := 612) (by decide +kernel), List.mem_of_getElem? (i := 803) (by decide +kernel), List.mem_of_getElem? (i := 804) (by decide +kernel)⟩
theorem lw_p77 : lw_okq (⟨"GaveTheDayBeforeModel", "cameBack", "(III)Z"⟩, 39) := ⟨⟨by decide +kernel, by decide +kernel⟩, List.mem_of_getElem? (i := 612) (by decide +kernel), List.mem_of_getElem? (i := 807) (by decide +kernel), List.mem_of_getElem? (i := 808) (by decide +kernel)⟩
theorem lw_p78 : lw_okq (⟨"GaveTheDayBeforeModel", "given", "(II)I"⟩, 39) := ⟨⟨by decide +kernel, by decide +kernel⟩, List.mem_of_getElem? (i := 612) (by decide +kernel), List.mem_of_getElem? (i := 814) (by decide +kernel), List.mem_of_getElem? (i := 815) (by decide +kernel)⟩
theorem lw_p79 : lw_okq (⟨"GaveTheDayBeforeModel", "wrongGift", "(III)I"⟩, 39) := ⟨⟨by decide +kernel, by decide +kernel⟩, List.mem_of_getElem? (i := 612) (by decide +kernel), List.mem_of_getElem? (i := 832) (by decide +kernel), List.mem_of_getElem? (i := 833) (by decide +kernel)⟩
def lw_privs_5 : List (MethodName × Nat) := [(⟨"GaveTheDayBeforeModel", "refuse", "(I)I"⟩, 39), (⟨"GaveTheDayBeforeModel", "readStatement", "()V"⟩, 39), (⟨"GaveTheDayBeforeModel", "here", "()I"⟩, 39), (⟨"GaveTheDayBeforeModel", "readDigit", "()I"⟩, 39), (⟨"GaveTheDayBeforeModel", "readNumber", "(I)I"⟩, 39), (⟨"GaveTheDayBeforeModel", "take", "(I)V"⟩, 39), (⟨"GaveTheDayBeforeModel", "isGood", "(I)Z"⟩, 39), (⟨"GaveTheDayBeforeModel", "comes", "(I)V"⟩, 39), (⟨"GaveTheDayBeforeModel", "isOne", "(I)Z"⟩, 39), (⟨"GaveTheDayBeforeModel", "got", "(II)I"⟩, 39), (⟨"GaveTheDayBeforeModel", "gift", "(III)I"⟩, 39), (⟨"GaveTheDayBeforeModel", "leave", "(I)I"⟩, 39), (⟨"GaveTheDayBeforeModel", "counted", "(II)I"⟩, 39), (⟨"GaveTheDayBeforeModel", "cameBack", "(III)Z"⟩, 39), (⟨"GaveTheDayBeforeModel", "given", "(II)I"⟩, 39), (⟨"GaveTheDayBeforeModel", "wrongGift", "(III)I"⟩, 39)]
theorem lw_r5 : ∀ q ∈ lw_privs_5, lw_okq q := List.forall_mem_cons.mpr ⟨lw_p64, List.forall_mem_cons.mpr ⟨lw_p65, List.forall_mem_cons.mpr ⟨lw_p66, List.forall_mem_cons.mpr ⟨lw_p67, List.forall_mem_cons.mpr ⟨lw_p68, List.forall_mem_cons.mpr ⟨lw_p69, List.forall_mem_cons.mpr ⟨lw_p70, List.forall_mem_cons.mpr ⟨lw_p71, List.forall_mem_cons.mpr ⟨lw_p72, List.forall_mem_cons.mpr ⟨lw_p73, List.forall_mem_cons.mpr ⟨lw_p74, List.forall_mem_cons.mpr ⟨lw_p75, List.forall_mem_cons.mpr ⟨lw_p76, List.forall_mem_cons.mpr ⟨lw_p77, List.forall_mem_cons.mpr ⟨lw_p78, List.forall_mem_cons.mpr ⟨lw_p79, fun _ h => absurd h List.not_mem_nil⟩⟩⟩⟩⟩⟩⟩⟩⟩⟩⟩⟩⟩⟩⟩⟩
theorem lw_p80 : lw_okq (⟨"GaveTheDayBeforeModel", "addGift", "(III)V"⟩, 39) := ⟨⟨by decide +kernel, by decide +kernel⟩, List.mem_of_getElem? (i := 612) (by decide +kernel), List.mem_of_getElem? (i := 836) (by decide +kernel), List.mem_of_getElem? (i := 837) (by decide +kernel)⟩
theorem lw_p81 : lw_okq (⟨"GaveTheDayBeforeModel", "endDay", "()V"⟩, 39) := ⟨⟨by decide +kernel, by decide +kernel⟩, List.mem_of_getElem? (i := 612) (by decide +kernel), List.mem_of_getElem? (i := 844) (by decide +kernel), List.mem_of_getElem? (i := 845) (by decide +kernel)⟩
theorem lw_p82 : lw_okq (⟨"GaveTheDayBeforeModel", "dayOn", "()V"⟩, 39) := ⟨⟨by decide +kernel, by decide +kernel⟩, List.mem_of_getElem? (i := 612) (by decide +kernel), List.mem_of_getElem? (i := 852) (by decide +kernel), List.mem_of_getElem? (i := 853) (by decide +kernel)⟩
theorem lw_p83 : lw_okq (⟨"GaveTheDayBeforeModel", "giveByKind", "(I)V"⟩, 39) := ⟨⟨by decide +kernel, by decide +kernel⟩, List.mem_of_getElem? (i := 612) (by decide +kernel), List.mem_of_getElem? (i := 856) (by decide +kernel), List.mem_of_getElem? (i := 857) (by decide +kernel)⟩
theorem lw_p84 : lw_okq (⟨"GaveTheDayBeforeModel", "byKind", "(I)I"⟩, 39) := ⟨⟨by decide +kernel, by decide +kernel⟩, List.mem_of_getElem? (i := 612) (by decide +kernel), List.mem_of_getElem? (i := 860) (by decide +kernel), List.mem_of_getElem? (i := 861) (by decide +kernel)⟩
theorem lw_p85 : lw_okq (⟨"GaveTheDayBeforeModel", "target", "(I)I"⟩, 39) := ⟨⟨by decide +kernel, by decide +kernel⟩, List.mem_of_getElem? (i := 612) (by decide +kernel), List.mem_of_getElem? (i := 864) (by decide +kernel), List.mem_of_getElem? (i := 865) (by decide +kernel)⟩
theorem lw_p86 : lw_okq (⟨"GaveTheDayBeforeModel", "grown", "(I)I"⟩, 39) := ⟨⟨by decide +kernel, by decide +kernel⟩, List.mem_of_getElem? (i := 612) (by decide +kernel), List.mem_of_getElem? (i := 868) (by decide +kernel), List.mem_of_getElem? (i := 869) (by decide +kernel)⟩
theorem lw_p87 : lw_okq (⟨"GaveTheDayBeforeModel", "wrongOne", "(IIII)I"⟩, 39) := ⟨⟨by decide +kernel, by decide +kernel⟩, List.mem_of_getElem? (i := 612) (by decide +kernel), List.mem_of_getElem? (i := 880) (by decide +kernel), List.mem_of_getElem? (i := 881) (by decide +kernel)⟩
theorem lw_p88 : lw_okq (⟨"GaveTheDayBeforeModel", "hasAfter", "(II)I"⟩, 39) := ⟨⟨by decide +kernel, by decide +kernel⟩, List.mem_of_getElem? (i := 612) (by decide +kernel), List.mem_of_getElem? (i := 887) (by decide +kernel), List.mem_of_getElem? (i := 888) (by decide +kernel)⟩
theorem lw_p89 : lw_okq (⟨"GaveTheDayBeforeModel", "open", "()V"⟩, 39) := ⟨⟨by decide +kernel, by decide +kernel⟩, List.mem_of_getElem? (i := 612) (by decide +kernel), List.mem_of_getElem? (i := 891) (by decide +kernel), List.mem_of_getElem? (i := 892) (by decide +kernel)⟩
theorem lw_p90 : lw_okq (⟨"GaveTheDayBeforeModel", "carryDays", "([IZ)V"⟩, 39) := ⟨⟨by decide +kernel, by decide +kernel⟩, List.mem_of_getElem? (i := 612) (by decide +kernel), List.mem_of_getElem? (i := 895) (by decide +kernel), List.mem_of_getElem? (i := 896) (by decide +kernel)⟩
theorem lw_p91 : lw_okq (⟨"GaveTheDayBeforeModel", "carry", "(I)I"⟩, 39) := ⟨⟨by decide +kernel, by decide +kernel⟩, List.mem_of_getElem? (i := 612) (by decide +kernel), List.mem_of_getElem? (i := 899) (by decide +kernel), List.mem_of_getElem? (i := 900) (by decide +kernel)⟩
theorem lw_p92 : lw_okq (⟨"GaveTheDayBeforeModel", "run", "(I)V"⟩, 39) := ⟨⟨by decide +kernel, by decide +kernel⟩, List.mem_of_getElem? (i := 612) (by decide +kernel), List.mem_of_getElem? (i := 903) (by decide +kernel), List.mem_of_getElem? (i := 904) (by decide +kernel)⟩
theorem lw_p93 : lw_okq (⟨"GaveTheDayBeforeModel", "close", "()V"⟩, 39) := ⟨⟨by decide +kernel, by decide +kernel⟩, List.mem_of_getElem? (i := 612) (by decide +kernel), List.mem_of_getElem? (i := 907) (by decide +kernel), List.mem_of_getElem? (i := 908) (by decide +kernel)⟩
theorem lw_p94 : lw_okq (⟨"GaveTheDayBeforeModel", "allAfter", "(I)I"⟩, 39) := ⟨⟨by decide +kernel, by decide +kernel⟩, List.mem_of_getElem? (i := 612) (by decide +kernel), List.mem_of_getElem? (i := 915) (by decide +kernel), List.mem_of_getElem? (i := 916) (by decide +kernel)⟩
theorem lw_p95 : lw_okq (⟨"GaveTheDayBeforeModel", "all", "()I"⟩, 39) := ⟨⟨by decide +kernel, by decide +kernel⟩, List.mem_of_getElem? (i := 612) (by decide +kernel), List.mem_of_getElem? (i := 919) (by decide +kernel), List.mem_of_getElem? (i := 920) (by decide +kernel)⟩
def lw_privs_6 : List (MethodName × Nat) := [(⟨"GaveTheDayBeforeModel", "addGift", "(III)V"⟩, 39), (⟨"GaveTheDayBeforeModel", "endDay", "()V"⟩, 39), (⟨"GaveTheDayBeforeModel", "dayOn", "()V"⟩, 39), (⟨"GaveTheDayBeforeModel", "giveByKind", "(I)V"⟩, 39), (⟨"GaveTheDayBeforeModel", "byKind", "(I)I"⟩, 39), (⟨"GaveTheDayBeforeModel", "target", "(I)I"⟩, 39), (⟨"GaveTheDayBeforeModel", "grown", "(I)I"⟩, 39), (⟨"GaveTheDayBeforeModel", "wrongOne", "(IIII)I"⟩, 39), (⟨"GaveTheDayBeforeModel", "hasAfter", "(II)I"⟩, 39), (⟨"GaveTheDayBeforeModel", "open", "()V"⟩, 39), (⟨"GaveTheDayBeforeModel", "carryDays", "([IZ)V"⟩, 39), (⟨"GaveTheDayBeforeModel", "carry", "(I)I"⟩, 39), (⟨"GaveTheDayBeforeModel", "run", "(I)V"⟩, 39), (⟨"GaveTheDayBeforeModel", "close", "()V"⟩, 39), (⟨"GaveTheDayBeforeModel", "allAfter", "(I)I"⟩, 39), (⟨"GaveTheDayBeforeModel", "all", "()I"⟩, 39)]
theorem lw_r6 : ∀ q ∈ lw_privs_6, lw_okq q := List.forall_mem_cons.mpr ⟨lw_p80, List.forall_mem_cons.mpr ⟨lw_p81, List.forall_mem_cons.mpr ⟨lw_p82, List.forall_mem_cons.mpr ⟨lw_p83, List.forall_mem_cons.mpr ⟨lw_p84, List.forall_mem_cons.mpr ⟨lw_p85, List.forall_mem_cons.mpr ⟨lw_p86, List.forall_mem_cons.mpr ⟨lw_p87, List.forall_mem_cons.mpr ⟨lw_p88, List.forall_mem_cons.mpr ⟨lw_p89, List.forall_mem_cons.mpr ⟨lw_p90, List.forall_mem_cons.mpr ⟨lw_p91, List.forall_mem_cons.mpr ⟨lw_p92, List.forall_mem_cons.mpr ⟨lw_p93, List.forall_mem_cons.mpr ⟨lw_p94, List.forall_mem_cons.mpr ⟨lw_p95, fun _ h => absurd h List.not_mem_nil⟩⟩⟩⟩⟩⟩⟩⟩⟩⟩⟩⟩⟩⟩⟩⟩
theorem lw_p96 : lw_okq (⟨"GaveTheDayBeforeModel", "richestNow", "()I"⟩, 39) := ⟨⟨by decide +kernel, by decide +kernel⟩, List.mem_of_getElem? (i := 612) (by decide +kernel), List.mem_of_getElem? (i := 931) (by decide +kernel), List.mem_of_getElem? (i := 932) (by decide +kernel)⟩
theorem lw_p97 : lw_okq (⟨"GaveTheDayBeforeModel", "isAsThen", "()Z"⟩, 39) := ⟨⟨by decide +kernel, by decide +kernel⟩, List.mem_of_getElem? (i := 612) (by decide +kernel), List.mem_of_getElem? (i := 947) (by decide +kernel), List.mem_of_getElem? (i := 948) (by decide +kernel)⟩
theorem lw_p98 : lw_okq (⟨"GaveTheDayBeforeModel", "findMost", "(II)V"⟩, 39) := ⟨⟨by decide +kernel, by decide +kernel⟩, List.mem_of_getElem? (i := 612) (by decide +kernel), List.mem_of_getElem? (i := 955) (by decide +kernel), List.mem_of_getElem? (i := 956) (by decide +kernel)⟩
theorem lw_p99 : lw_okq (⟨"GaveTheDayBeforeModel", "byRow", "(III)I"⟩, 39) := ⟨⟨by decide +kernel, by decide +kernel⟩, List.mem_of_getElem? (i := 612) (by decide +kernel), List.mem_of_getElem? (i := 962) (by decide +kernel), List.mem_of_getElem? (i := 963) (by decide +kernel)⟩
theorem lw_p100 : lw_okq (⟨"GaveTheDayBeforeModel", "choose", "(II)V"⟩, 39) := ⟨⟨by decide +kernel, by decide +kernel⟩, List.mem_of_getElem? (i := 612) (by decide +kernel), List.mem_of_getElem? (i := 966) (by decide +kernel), List.mem_of_getElem? (i := 967) (by decide +kernel)⟩
theorem lw_p101 : lw_okq (⟨"GaveTheDayBeforeModel", "stuck", "()I"⟩, 39) := ⟨⟨by decide +kernel, by decide +kernel⟩, List.mem_of_getElem? (i := 612) (by decide +kernel), List.mem_of_getElem? (i := 987) (by decide +kernel), List.mem_of_getElem? (i := 988) (by decide +kernel)⟩
theorem lw_p102 : lw_okq (⟨"GaveTheDayBeforeModel", "isAimedAt", "(I)Z"⟩, 39) := ⟨⟨by decide +kernel, by decide +kernel⟩, List.mem_of_getElem? (i := 612) (by decide +kernel), List.mem_of_getElem? (i := 991) (by decide +kernel), List.mem_of_getElem? (i := 992) (by decide +kernel)⟩
theorem lw_p103 : lw_okq (⟨"GaveTheDayBeforeModel", "hasBy", "(IIII)I"⟩, 39) := ⟨⟨by decide +kernel, by decide +kernel⟩, List.mem_of_getElem? (i := 612) (by decide +kernel), List.mem_of_getElem? (i := 1003) (by decide +kernel), List.mem_of_getElem? (i := 1004) (by decide +kernel)⟩
theorem lw_p104 : lw_okq (⟨"GaveTheDayBeforeModel", "bookOf", "(IZ)I"⟩, 39) := ⟨⟨by decide +kernel, by decide +kernel⟩, List.mem_of_getElem? (i := 612) (by decide +kernel), List.mem_of_getElem? (i := 1023) (by decide +kernel), List.mem_of_getElem? (i := 1024) (by decide +kernel)⟩
theorem lw_p105 : lw_okq (⟨"GaveTheDayBeforeModel", "draw", "(I)I"⟩, 39) := ⟨⟨by decide +kernel, by decide +kernel⟩, List.mem_of_getElem? (i := 612) (by decide +kernel), List.mem_of_getElem? (i := 1039) (by decide +kernel), List.mem_of_getElem? (i := 1040) (by decide +kernel)⟩
theorem lw_p106 : lw_okq (⟨"GaveTheDayBeforeModel", "carryAll", "(Z)V"⟩, 39) := ⟨⟨by decide +kernel, by decide +kernel⟩, List.mem_of_getElem? (i := 612) (by decide +kernel), List.mem_of_getElem? (i := 1050) (by decide +kernel), List.mem_of_getElem? (i := 1051) (by decide +kernel)⟩
theorem lw_p107 : lw_okq (⟨"GaveTheDayBeforeModel", "carryMore", "(II)I"⟩, 39) := ⟨⟨by decide +kernel, by decide +kernel⟩, List.mem_of_getElem? (i := 612) (by decide +kernel), List.mem_of_getElem? (i := 1054) (by decide +kernel), List.mem_of_getElem? (i := 1055) (by decide +kernel)⟩
theorem lw_p108 : lw_okq (⟨"GaveTheDayBeforeModel", "sum", "(Z)I"⟩, 39) := ⟨⟨by decide +kernel, by decide +kernel⟩, List.mem_of_getElem? (i := 612) (by decide +kernel), List.mem_of_getElem? (i := 1066) (by decide +kernel), List.mem_of_getElem? (i := 1067) (by decide +kernel)⟩
def lw_privs_7 : List (MethodName × Nat) := [(⟨"GaveTheDayBeforeModel", "richestNow", "()I"⟩, 39), (⟨"GaveTheDayBeforeModel", "isAsThen", "()Z"⟩, 39), (⟨"GaveTheDayBeforeModel", "findMost", "(II)V"⟩, 39), (⟨"GaveTheDayBeforeModel", "byRow", "(III)I"⟩, 39), (⟨"GaveTheDayBeforeModel", "choose", "(II)V"⟩, 39), (⟨"GaveTheDayBeforeModel", "stuck", "()I"⟩, 39), (⟨"GaveTheDayBeforeModel", "isAimedAt", "(I)Z"⟩, 39), (⟨"GaveTheDayBeforeModel", "hasBy", "(IIII)I"⟩, 39), (⟨"GaveTheDayBeforeModel", "bookOf", "(IZ)I"⟩, 39), (⟨"GaveTheDayBeforeModel", "draw", "(I)I"⟩, 39), (⟨"GaveTheDayBeforeModel", "carryAll", "(Z)V"⟩, 39), (⟨"GaveTheDayBeforeModel", "carryMore", "(II)I"⟩, 39), (⟨"GaveTheDayBeforeModel", "sum", "(Z)I"⟩, 39)]
theorem lw_r7 : ∀ q ∈ lw_privs_7, lw_okq q := List.forall_mem_cons.mpr ⟨lw_p96, List.forall_mem_cons.mpr ⟨lw_p97, List.forall_mem_cons.mpr ⟨lw_p98, List.forall_mem_cons.mpr ⟨lw_p99, List.forall_mem_cons.mpr ⟨lw_p100, List.forall_mem_cons.mpr ⟨lw_p101, List.forall_mem_cons.mpr ⟨lw_p102, List.forall_mem_cons.mpr ⟨lw_p103, List.forall_mem_cons.mpr ⟨lw_p104, List.forall_mem_cons.mpr ⟨lw_p105, List.forall_mem_cons.mpr ⟨lw_p106, List.forall_mem_cons.mpr ⟨lw_p107, List.forall_mem_cons.mpr ⟨lw_p108, fun _ h => absurd h List.not_mem_nil⟩⟩⟩⟩⟩⟩⟩⟩⟩⟩⟩⟩⟩
def lw_privs : List (MethodName × Nat) := lw_privs_1 ++ (lw_privs_2 ++ (lw_privs_3 ++ (lw_privs_4 ++ (lw_privs_5 ++ (lw_privs_6 ++ (lw_privs_7))))))
def lw_tbl : List Cond := k2_sels lw_privs ++ tables_1
theorem lw_privs_ok : ∀ q ∈ lw_privs, lw_okq q := by
  show ∀ q ∈ lw_privs_1 ++ (lw_privs_2 ++ (lw_privs_3 ++ (lw_privs_4 ++ (lw_privs_5 ++ (lw_privs_6 ++ (lw_privs_7)))))), lw_okq q
  exact List.forall_mem_append.mpr ⟨lw_r1, List.forall_mem_append.mpr ⟨lw_r2, List.forall_mem_append.mpr ⟨lw_r3, List.forall_mem_append.mpr ⟨lw_r4, List.forall_mem_append.mpr ⟨lw_r5, List.forall_mem_append.mpr ⟨lw_r6, lw_r7⟩⟩⟩⟩⟩⟩

def RX0 : String := "GaveTheDayBefore$Gifts"
def TX0 : u_T := fun k => match k with
  | 0 => ("GaveTheDayBefore$Gifts", "amount", "[I", true)
  | 1 => ("GaveTheDayBefore$Gifts", "counted", "[I", true)
  | _ => ("GaveTheDayBefore$Gifts", "pairs", "[J", true)
def tyX0 : Nat → FieldType := fun k => match k with
  | 0 => .array .int
  | 1 => .array .int
  | _ => .array .long
abbrev wsX00 : List Cond := u_ws RX0 TX0 3
theorem nmX0 : ∀ a, a < 3 → ∀ b, b < 3 → a ≠ b → (TX0 a).2.1 ≠ (TX0 b).2.1 := by decide +kernel
theorem tyX0_ok : ∀ k, k < 3 → parseFieldDescriptor (TX0 k).2.2.1 = some (tyX0 k) := by decide +kernel
abbrev cX0_init : ByteArray := prog_2_method_1_code
def yX0_init : MethodName := ⟨RX0, "<init>", "()V"⟩
abbrev cX0_become : ByteArray := prog_2_method_2_code
def yX0_become : MethodName := ⟨RX0, "become", "(LGaveTheDayBefore$Gifts;)V"⟩
abbrev cX0_add : ByteArray := prog_2_method_3_code
def yX0_add : MethodName := ⟨RX0, "add", "(III)V"⟩
abbrev cX0_givenToday : ByteArray := prog_2_method_4_code
def yX0_givenToday : MethodName := ⟨RX0, "givenToday", "(I)I"⟩
abbrev cX0_gotToday : ByteArray := prog_2_method_5_code
def yX0_gotToday : MethodName := ⟨RX0, "gotToday", "(I)I"⟩
abbrev cX0_gotYesterday : ByteArray := prog_2_method_6_code
def yX0_gotYesterday : MethodName := ⟨RX0, "gotYesterday", "(I)I"⟩
abbrev cX0_got : ByteArray := prog_2_method_7_code
def yX0_got : MethodName := ⟨RX0, "got", "(II)I"⟩
abbrev cX0_countedYesterday : ByteArray := prog_2_method_8_code
def yX0_countedYesterday : MethodName := ⟨RX0, "countedYesterday", "(I)I"⟩
abbrev cX0_countedTogether : ByteArray := prog_2_method_9_code
def yX0_countedTogether : MethodName := ⟨RX0, "countedTogether", "(II)I"⟩
abbrev cX0_countedAtBest : ByteArray := prog_2_method_10_code
def yX0_countedAtBest : MethodName := ⟨RX0, "countedAtBest", "(II)I"⟩
abbrev cX0_countPastDays : ByteArray := prog_2_method_11_code
def yX0_countPastDays : MethodName := ⟨RX0, "countPastDays", "(I)V"⟩
abbrev cX0_countDay : ByteArray := prog_2_method_12_code
def yX0_countDay : MethodName := ⟨RX0, "countDay", "(II)V"⟩
abbrev cX0_countOf : ByteArray := prog_2_method_13_code
def yX0_countOf : MethodName := ⟨RX0, "countOf", "(IIJ)I"⟩
abbrev cX0_turnToNextDay : ByteArray := prog_2_method_14_code
def yX0_turnToNextDay : MethodName := ⟨RX0, "turnToNextDay", "()V"⟩
def RX1 : String := "GaveTheDayBefore$Letters"
def TX1 : u_T := fun k => match k with
  | 0 => ("GaveTheDayBefore$Letters", "letter", "[I", true)
  | 1 => ("GaveTheDayBefore$Letters", "size", "I", false)
  | _ => ("GaveTheDayBefore$Letters", "place", "I", false)
def tyX1 : Nat → FieldType := fun k => match k with
  | 0 => .array .int
  | 1 => .int
  | _ => .int
abbrev wsX10 : List Cond := u_ws RX1 TX1 3
theorem nmX1 : ∀ a, a < 3 → ∀ b, b < 3 → a ≠ b → (TX1 a).2.1 ≠ (TX1 b).2.1 := by decide +kernel
theorem tyX1_ok : ∀ k, k < 3 → parseFieldDescriptor (TX1 k).2.2.1 = some (tyX1 k) := by decide +kernel
abbrev cX1_init : ByteArray := prog_3_method_1_code
def yX1_init : MethodName := ⟨RX1, "<init>", "()V"⟩
abbrev cX1_isFull : ByteArray := prog_3_method_2_code
def yX1_isFull : MethodName := ⟨RX1, "isFull", "()Z"⟩
abbrev cX1_add : ByteArray := prog_3_method_3_code
def yX1_add : MethodName := ⟨RX1, "add", "(I)I"⟩
abbrev cX1_forget : ByteArray := prog_3_method_4_code
def yX1_forget : MethodName := ⟨RX1, "forget", "()V"⟩
abbrev cX1_isAt : ByteArray := prog_3_method_5_code
def yX1_isAt : MethodName := ⟨RX1, "isAt", "(II)Z"⟩
abbrev cX1_isDigitAt : ByteArray := prog_3_method_6_code
def yX1_isDigitAt : MethodName := ⟨RX1, "isDigitAt", "(I)Z"⟩
abbrev cX1_digit : ByteArray := prog_3_method_7_code
def yX1_digit : MethodName := ⟨RX1, "digit", "(I)I"⟩
abbrev cX1_number : ByteArray := prog_3_method_8_code
def yX1_number : MethodName := ⟨RX1, "number", "(I)I"⟩
abbrev cX1_next : ByteArray := prog_3_method_9_code
def yX1_next : MethodName := ⟨RX1, "next", "(II)I"⟩
abbrev cX1_firstUnfit : ByteArray := prog_3_method_10_code
def yX1_firstUnfit : MethodName := ⟨RX1, "firstUnfit", "()I"⟩
abbrev cX1_passesStatement : ByteArray := prog_3_method_11_code
def yX1_passesStatement : MethodName := ⟨RX1, "passesStatement", "()Z"⟩
abbrev cX1_passes : ByteArray := prog_3_method_12_code
def yX1_passes : MethodName := ⟨RX1, "passes", "(I)Z"⟩
abbrev cX1_passesDigits : ByteArray := prog_3_method_13_code
def yX1_passesDigits : MethodName := ⟨RX1, "passesDigits", "(II)Z"⟩
def RX2 : String := "GaveTheDayBefore$Search"
def TX2 : u_T := fun k => match k with
  | 0 => ("GaveTheDayBefore$Search", "level", "[LGaveTheDayBefore$Village;", true)
  | 1 => ("GaveTheDayBefore$Search", "chosen", "[I", true)
  | 2 => ("GaveTheDayBefore$Search", "bestRow", "[I", true)
  | 3 => ("GaveTheDayBefore$Search", "one", "I", false)
  | 4 => ("GaveTheDayBefore$Search", "days", "I", false)
  | 5 => ("GaveTheDayBefore$Search", "much", "I", false)
  | 6 => ("GaveTheDayBefore$Search", "best", "I", false)
  | _ => ("GaveTheDayBefore$Search", "leastGiven", "I", false)
def tyX2 : Nat → FieldType := fun k => match k with
  | 0 => .array (.object "GaveTheDayBefore$Village")
  | 1 => .array .int
  | 2 => .array .int
  | 3 => .int
  | 4 => .int
  | 5 => .int
  | 6 => .int
  | _ => .int
abbrev wsX20 : List Cond := u_ws RX2 TX2 8
theorem nmX2 : ∀ a, a < 8 → ∀ b, b < 8 → a ≠ b → (TX2 a).2.1 ≠ (TX2 b).2.1 := by decide +kernel
theorem tyX2_ok : ∀ k, k < 8 → parseFieldDescriptor (TX2 k).2.2.1 = some (tyX2 k) := by decide +kernel
abbrev cX2_init : ByteArray := prog_4_method_1_code
def yX2_init : MethodName := ⟨RX2, "<init>", "()V"⟩
abbrev cX2_run : ByteArray := prog_4_method_2_code
def yX2_run : MethodName := ⟨RX2, "run", "(LGaveTheDayBefore$Village;III)V"⟩
abbrev cX2_explore : ByteArray := prog_4_method_3_code
def yX2_explore : MethodName := ⟨RX2, "explore", "(LGaveTheDayBefore$Search;II)V"⟩
abbrev cX2_look : ByteArray := prog_4_method_4_code
def yX2_look : MethodName := ⟨RX2, "look", "(I)V"⟩
def RX3 : String := "GaveTheDayBefore$Village"
def TX3 : u_T := fun k => match k with
  | 0 => ("GaveTheDayBefore$Village", "kind", "[I", true)
  | 1 => ("GaveTheDayBefore$Village", "figure", "[I", true)
  | 2 => ("GaveTheDayBefore$Village", "to", "[I", true)
  | 3 => ("GaveTheDayBefore$Village", "has", "[I", true)
  | 4 => ("GaveTheDayBefore$Village", "finds", "[I", true)
  | 5 => ("GaveTheDayBefore$Village", "setting", "[I", true)
  | 6 => ("GaveTheDayBefore$Village", "gifts", "LGaveTheDayBefore$Gifts;", true)
  | 7 => ("GaveTheDayBefore$Village", "people", "I", false)
  | _ => ("GaveTheDayBefore$Village", "today", "I", false)
def tyX3 : Nat → FieldType := fun k => match k with
  | 0 => .array .int
  | 1 => .array .int
  | 2 => .array .int
  | 3 => .array .int
  | 4 => .array .int
  | 5 => .array .int
  | 6 => .object "GaveTheDayBefore$Gifts"
  | 7 => .int
  | _ => .int
abbrev wsX30 : List Cond := u_ws RX3 TX3 9
theorem nmX3 : ∀ a, a < 9 → ∀ b, b < 9 → a ≠ b → (TX3 a).2.1 ≠ (TX3 b).2.1 := by decide +kernel
theorem tyX3_ok : ∀ k, k < 9 → parseFieldDescriptor (TX3 k).2.2.1 = some (tyX3 k) := by decide +kernel
abbrev cX3_init : ByteArray := prog_5_method_1_code
def yX3_init : MethodName := ⟨RX3, "<init>", "()V"⟩
abbrev cX3_become : ByteArray := prog_5_method_2_code
def yX3_become : MethodName := ⟨RX3, "become", "(LGaveTheDayBefore$Village;)V"⟩
abbrev cX3_exists : ByteArray := prog_5_method_3_code
def yX3_exists : MethodName := ⟨RX3, "exists", "(I)Z"⟩
abbrev cX3_welcome : ByteArray := prog_5_method_4_code
def yX3_welcome : MethodName := ⟨RX3, "welcome", "(IIIII)Z"⟩
abbrev cX3_takeLaw : ByteArray := prog_5_method_5_code
def yX3_takeLaw : MethodName := ⟨RX3, "takeLaw", "(III)Z"⟩
abbrev cX3_changeSetting : ByteArray := prog_5_method_6_code
def yX3_changeSetting : MethodName := ⟨RX3, "changeSetting", "(II)I"⟩
abbrev cX3_sumOfHas : ByteArray := prog_5_method_7_code
def yX3_sumOfHas : MethodName := ⟨RX3, "sumOfHas", "()I"⟩
abbrev cX3_sumOfLying : ByteArray := prog_5_method_8_code
def yX3_sumOfLying : MethodName := ⟨RX3, "sumOfLying", "()I"⟩
abbrev cX3_sumOfGiven : ByteArray := prog_5_method_9_code
def yX3_sumOfGiven : MethodName := ⟨RX3, "sumOfGiven", "()I"⟩
abbrev cX3_richestAbove : ByteArray := prog_5_method_10_code
def yX3_richestAbove : MethodName := ⟨RX3, "richestAbove", "(I)I"⟩
abbrev cX3_leave : ByteArray := prog_5_method_11_code
def yX3_leave : MethodName := ⟨RX3, "leave", "(I)I"⟩
abbrev cX3_bounded : ByteArray := prog_5_method_12_code
def yX3_bounded : MethodName := ⟨RX3, "bounded", "(I)I"⟩
abbrev cX3_amountByKind : ByteArray := prog_5_method_13_code
def yX3_amountByKind : MethodName := ⟨RX3, "amountByKind", "(I)I"⟩
abbrev cX3_whatGrew : ByteArray := prog_5_method_14_code
def yX3_whatGrew : MethodName := ⟨RX3, "whatGrew", "(I)I"⟩
abbrev cX3_divides : ByteArray := prog_5_method_15_code
def yX3_divides : MethodName := ⟨RX3, "divides", "(II)Z"⟩
abbrev cX3_takerByKind : ByteArray := prog_5_method_16_code
def yX3_takerByKind : MethodName := ⟨RX3, "takerByKind", "(I)I"⟩
abbrev cX3_giftByKind : ByteArray := prog_5_method_17_code
def yX3_giftByKind : MethodName := ⟨RX3, "giftByKind", "(I)I"⟩
abbrev cX3_nextOne : ByteArray := prog_5_method_18_code
def yX3_nextOne : MethodName := ⟨RX3, "nextOne", "(I)I"⟩
abbrev cX3_giftRefusal : ByteArray := prog_5_method_19_code
def yX3_giftRefusal : MethodName := ⟨RX3, "giftRefusal", "(III)I"⟩
abbrev cX3_hand : ByteArray := prog_5_method_20_code
def yX3_hand : MethodName := ⟨RX3, "hand", "(III)V"⟩
abbrev cX3_handIfAny : ByteArray := prog_5_method_21_code
def yX3_handIfAny : MethodName := ⟨RX3, "handIfAny", "(III)V"⟩
abbrev cX3_passDays : ByteArray := prog_5_method_22_code
def yX3_passDays : MethodName := ⟨RX3, "passDays", "(I)V"⟩
abbrev cX3_passDay : ByteArray := prog_5_method_23_code
def yX3_passDay : MethodName := ⟨RX3, "passDay", "()I"⟩
abbrev cX3_passDayOfOne : ByteArray := prog_5_method_24_code
def yX3_passDayOfOne : MethodName := ⟨RX3, "passDayOfOne", "(II)V"⟩
abbrev cX3_endDay : ByteArray := prog_5_method_25_code
def yX3_endDay : MethodName := ⟨RX3, "endDay", "()I"⟩
abbrev cX3_whoCannotBegin : ByteArray := prog_5_method_26_code
def yX3_whoCannotBegin : MethodName := ⟨RX3, "whoCannotBegin", "()I"⟩
abbrev cX3_isSomebodysTaker : ByteArray := prog_5_method_27_code
def yX3_isSomebodysTaker : MethodName := ⟨RX3, "isSomebodysTaker", "(I)Z"⟩
abbrev cX3_find : ByteArray := prog_5_method_28_code
def yX3_find : MethodName := ⟨RX3, "find", "(II)V"⟩
def RX4 : String := "GaveTheDayBefore"
def TX4 : u_T := fun k => match k with
  | 0 => ("GaveTheDayBefore", "now", "LGaveTheDayBefore$Village;", true)
  | 1 => ("GaveTheDayBefore", "saved", "LGaveTheDayBefore$Village;", true)
  | 2 => ("GaveTheDayBefore", "mind", "LGaveTheDayBefore$Village;", true)
  | 3 => ("GaveTheDayBefore", "search", "LGaveTheDayBefore$Search;", true)
  | 4 => ("GaveTheDayBefore", "letters", "LGaveTheDayBefore$Letters;", true)
  | 5 => ("GaveTheDayBefore", "morning", "[I", true)
  | 6 => ("GaveTheDayBefore", "numbers", "[I", true)
  | 7 => ("GaveTheDayBefore", "refusals", "[I", true)
  | 8 => ("GaveTheDayBefore", "numbersSize", "I", false)
  | _ => ("GaveTheDayBefore", "imageTaken", "Z", false)
def tyX4 : Nat → FieldType := fun k => match k with
  | 0 => .object "GaveTheDayBefore$Village"
  | 1 => .object "GaveTheDayBefore$Village"
  | 2 => .object "GaveTheDayBefore$Village"
  | 3 => .object "GaveTheDayBefore$Search"
  | 4 => .object "GaveTheDayBefore$Letters"
  | 5 => .array .int
  | 6 => .array .int
  | 7 => .array .int
  | 8 => .int
  | _ => .boolean
abbrev wsX40 : List Cond := u_ws RX4 TX4 10
theorem nmX4 : ∀ a, a < 10 → ∀ b, b < 10 → a ≠ b → (TX4 a).2.1 ≠ (TX4 b).2.1 := by decide +kernel
theorem tyX4_ok : ∀ k, k < 10 → parseFieldDescriptor (TX4 k).2.2.1 = some (tyX4 k) := by decide +kernel
abbrev cX4_init : ByteArray := prog_1_method_1_code
def yX4_init : MethodName := ⟨RX4, "<init>", "()V"⟩
abbrev cX4_feed : ByteArray := prog_1_method_2_code
def yX4_feed : MethodName := ⟨RX4, "feed", "(I)I"⟩
abbrev cX4_land : ByteArray := prog_1_method_3_code
def yX4_land : MethodName := ⟨RX4, "land", "()I"⟩
abbrev cX4_person : ByteArray := prog_1_method_4_code
def yX4_person : MethodName := ⟨RX4, "person", "(II)I"⟩
abbrev cX4_put : ByteArray := prog_1_method_5_code
def yX4_put : MethodName := ⟨RX4, "put", "(III)I"⟩
abbrev cX4_set : ByteArray := prog_1_method_6_code
def yX4_set : MethodName := ⟨RX4, "set", "(II)I"⟩
abbrev cX4_give : ByteArray := prog_1_method_7_code
def yX4_give : MethodName := ⟨RX4, "give", "(III)I"⟩
abbrev cX4_evening : ByteArray := prog_1_method_8_code
def yX4_evening : MethodName := ⟨RX4, "evening", "()I"⟩
abbrev cX4_day : ByteArray := prog_1_method_9_code
def yX4_day : MethodName := ⟨RX4, "day", "()I"⟩
abbrev cX4_gives : ByteArray := prog_1_method_10_code
def yX4_gives : MethodName := ⟨RX4, "gives", "(I)I"⟩
abbrev cX4_after : ByteArray := prog_1_method_11_code
def yX4_after : MethodName := ⟨RX4, "after", "(II)I"⟩
abbrev cX4_all : ByteArray := prog_1_method_12_code
def yX4_all : MethodName := ⟨RX4, "all", "(I)I"⟩
abbrev cX4_enough : ByteArray := prog_1_method_13_code
def yX4_enough : MethodName := ⟨RX4, "enough", "(II)I"⟩
abbrev cX4_richest : ByteArray := prog_1_method_14_code
def yX4_richest : MethodName := ⟨RX4, "richest", "(I)I"⟩
abbrev cX4_lost : ByteArray := prog_1_method_15_code
def yX4_lost : MethodName := ⟨RX4, "lost", "(I)I"⟩
abbrev cX4_grows : ByteArray := prog_1_method_16_code
def yX4_grows : MethodName := ⟨RX4, "grows", "(I)I"⟩
abbrev cX4_rest : ByteArray := prog_1_method_17_code
def yX4_rest : MethodName := ⟨RX4, "rest", "()I"⟩
abbrev cX4_most : ByteArray := prog_1_method_18_code
def yX4_most : MethodName := ⟨RX4, "most", "(II)I"⟩
abbrev cX4_choice : ByteArray := prog_1_method_19_code
def yX4_choice : MethodName := ⟨RX4, "choice", "(III)I"⟩
abbrev cX4_gap : ByteArray := prog_1_method_20_code
def yX4_gap : MethodName := ⟨RX4, "gap", "(II)I"⟩
abbrev cX4_feast : ByteArray := prog_1_method_21_code
def yX4_feast : MethodName := ⟨RX4, "feast", "(III)I"⟩
abbrev cX4_begins : ByteArray := prog_1_method_22_code
def yX4_begins : MethodName := ⟨RX4, "begins", "()I"⟩
abbrev cX4_helps : ByteArray := prog_1_method_23_code
def yX4_helps : MethodName := ⟨RX4, "helps", "()I"⟩
abbrev cX4_byLaw : ByteArray := prog_1_method_24_code
def yX4_byLaw : MethodName := ⟨RX4, "byLaw", "(III)I"⟩
abbrev cX4_byBack : ByteArray := prog_1_method_25_code
def yX4_byBack : MethodName := ⟨RX4, "byBack", "(III)I"⟩
abbrev cX4_leastLaw : ByteArray := prog_1_method_26_code
def yX4_leastLaw : MethodName := ⟨RX4, "leastLaw", "(II)I"⟩
abbrev cX4_row : ByteArray := prog_1_method_27_code
def yX4_row : MethodName := ⟨RX4, "row", "(I)I"⟩
abbrev cX4_found : ByteArray := prog_1_method_28_code
def yX4_found : MethodName := ⟨RX4, "found", "(I)I"⟩
abbrev cX4_judge : ByteArray := prog_1_method_29_code
def yX4_judge : MethodName := ⟨RX4, "judge", "(I)I"⟩
abbrev cX4_told : ByteArray := prog_1_method_30_code
def yX4_told : MethodName := ⟨RX4, "told", "()I"⟩
abbrev cX4_seeds : ByteArray := prog_1_method_31_code
def yX4_seeds : MethodName := ⟨RX4, "seeds", "(II)I"⟩
abbrev cX4_image : ByteArray := prog_1_method_32_code
def yX4_image : MethodName := ⟨RX4, "image", "()I"⟩
abbrev cX4_restore : ByteArray := prog_1_method_33_code
def yX4_restore : MethodName := ⟨RX4, "restore", "()I"⟩
abbrev cX4_count : ByteArray := prog_1_method_34_code
def yX4_count : MethodName := ⟨RX4, "count", "(I)I"⟩
abbrev cX4_refuse : ByteArray := prog_1_method_35_code
def yX4_refuse : MethodName := ⟨RX4, "refuse", "(I)I"⟩
abbrev cX4_outside : ByteArray := prog_1_method_36_code
def yX4_outside : MethodName := ⟨RX4, "outside", "(III)I"⟩
abbrev cX4_ofOneRefusal : ByteArray := prog_1_method_37_code
def yX4_ofOneRefusal : MethodName := ⟨RX4, "ofOneRefusal", "(IIII)I"⟩
abbrev cX4_ofOneTwiceRefusal : ByteArray := prog_1_method_38_code
def yX4_ofOneTwiceRefusal : MethodName := ⟨RX4, "ofOneTwiceRefusal", "(III)I"⟩
abbrev cX4_putRefusal : ByteArray := prog_1_method_39_code
def yX4_putRefusal : MethodName := ⟨RX4, "putRefusal", "(III)I"⟩
abbrev cX4_think : ByteArray := prog_1_method_40_code
def yX4_think : MethodName := ⟨RX4, "think", "(I)V"⟩
abbrev cX4_quietDayInMind : ByteArray := prog_1_method_41_code
def yX4_quietDayInMind : MethodName := ⟨RX4, "quietDayInMind", "()Z"⟩
abbrev cX4_hasByLaw : ByteArray := prog_1_method_42_code
def yX4_hasByLaw : MethodName := ⟨RX4, "hasByLaw", "(III)I"⟩
abbrev cX4_readLand : ByteArray := prog_1_method_43_code
def yX4_readLand : MethodName := ⟨RX4, "readLand", "()I"⟩
abbrev cX4_comesInMind : ByteArray := prog_1_method_44_code
def yX4_comesInMind : MethodName := ⟨RX4, "comesInMind", "(I)Z"⟩
abbrev cX4_lookAtBook : ByteArray := prog_1_method_45_code
def yX4_lookAtBook : MethodName := ⟨RX4, "lookAtBook", "(IZ)I"⟩
abbrev cX4_firstImpossibleGift : ByteArray := prog_1_method_46_code
def yX4_firstImpossibleGift : MethodName := ⟨RX4, "firstImpossibleGift", "()I"⟩
abbrev cX4_nextSeed : ByteArray := prog_1_method_47_code
def yX4_nextSeed : MethodName := ⟨RX4, "nextSeed", "(I)I"⟩
abbrev cX4_draw : ByteArray := prog_1_method_48_code
def yX4_draw : MethodName := ⟨RX4, "draw", "(II)I"⟩
def RX5 : String := "GaveTheDayBeforeModel"
def TX5 : u_T := fun k => match k with
  | 0 => ("GaveTheDayBeforeModel", "people", "I", false)
  | 1 => ("GaveTheDayBeforeModel", "day", "I", false)
  | 2 => ("GaveTheDayBeforeModel", "law", "I", false)
  | 3 => ("GaveTheDayBeforeModel", "span", "I", false)
  | 4 => ("GaveTheDayBeforeModel", "back", "I", false)
  | 5 => ("GaveTheDayBeforeModel", "free", "I", false)
  | 6 => ("GaveTheDayBeforeModel", "kinds", "[I", true)
  | 7 => ("GaveTheDayBeforeModel", "figures", "[I", true)
  | 8 => ("GaveTheDayBeforeModel", "finds", "[I", true)
  | 9 => ("GaveTheDayBeforeModel", "tos", "[I", true)
  | 10 => ("GaveTheDayBeforeModel", "has", "[I", true)
  | 11 => ("GaveTheDayBeforeModel", "gifts", "[I", true)
  | 12 => ("GaveTheDayBeforeModel", "lost", "I", false)
  | 13 => ("GaveTheDayBeforeModel", "thrown", "I", false)
  | 14 => ("GaveTheDayBeforeModel", "refusals", "[I", true)
  | 15 => ("GaveTheDayBeforeModel", "carried", "[I", true)
  | 16 => ("GaveTheDayBeforeModel", "kept", "[I", true)
  | 17 => ("GaveTheDayBeforeModel", "place", "I", false)
  | 18 => ("GaveTheDayBeforeModel", "isTaking", "Z", false)
  | 19 => ("GaveTheDayBeforeModel", "keptIn", "[I", false)
  | 20 => ("GaveTheDayBeforeModel", "letters", "[I", true)
  | 21 => ("GaveTheDayBeforeModel", "letterMany", "I", false)
  | 22 => ("GaveTheDayBeforeModel", "at", "I", false)
  | 23 => ("GaveTheDayBeforeModel", "isBad", "Z", false)
  | 24 => ("GaveTheDayBeforeModel", "statements", "I", false)
  | 25 => ("GaveTheDayBeforeModel", "placeOf", "[I", true)
  | 26 => ("GaveTheDayBeforeModel", "letterOf", "[I", true)
  | 27 => ("GaveTheDayBeforeModel", "numbers", "[I", true)
  | 28 => ("GaveTheDayBeforeModel", "comingPeople", "I", false)
  | 29 => ("GaveTheDayBeforeModel", "hadThen", "[I", true)
  | 30 => ("GaveTheDayBeforeModel", "chosenSum", "I", false)
  | 31 => ("GaveTheDayBeforeModel", "bestRow", "I", false)
  | 32 => ("GaveTheDayBeforeModel", "mostHad", "I", false)
  | 33 => ("GaveTheDayBeforeModel", "row", "[I", true)
  | 34 => ("GaveTheDayBeforeModel", "rowMany", "I", false)
  | 35 => ("GaveTheDayBeforeModel", "seed", "I", false)
  | 36 => ("GaveTheDayBeforeModel", "hasImage", "Z", false)
  | 37 => ("GaveTheDayBeforeModel", "imaged", "[I", true)
  | _ => ("GaveTheDayBeforeModel", "imagedMore", "[I", true)
def tyX5 : Nat → FieldType := fun k => match k with
  | 0 => .int
  | 1 => .int
  | 2 => .int
  | 3 => .int
  | 4 => .int
  | 5 => .int
  | 6 => .array .int
  | 7 => .array .int
  | 8 => .array .int
  | 9 => .array .int
  | 10 => .array .int
  | 11 => .array .int
  | 12 => .int
  | 13 => .int
  | 14 => .array .int
  | 15 => .array .int
  | 16 => .array .int
  | 17 => .int
  | 18 => .boolean
  | 19 => .array .int
  | 20 => .array .int
  | 21 => .int
  | 22 => .int
  | 23 => .boolean
  | 24 => .int
  | 25 => .array .int
  | 26 => .array .int
  | 27 => .array .int
  | 28 => .int
  | 29 => .array .int
  | 30 => .int
  | 31 => .int
  | 32 => .int
  | 33 => .array .int
  | 34 => .int
  | 35 => .int
  | 36 => .boolean
  | 37 => .array .int
  | _ => .array .int
abbrev wsX50 : List Cond := u_ws RX5 TX5 39
theorem nmX5 : ∀ a, a < 39 → ∀ b, b < 39 → a ≠ b → (TX5 a).2.1 ≠ (TX5 b).2.1 := by decide +kernel
theorem tyX5_ok : ∀ k, k < 39 → parseFieldDescriptor (TX5 k).2.2.1 = some (tyX5 k) := by decide +kernel
abbrev cX5_init : ByteArray := prog_7_method_1_code
def yX5_init : MethodName := ⟨RX5, "<init>", "()V"⟩
abbrev cX5_in : ByteArray := prog_7_method_3_code
def yX5_in : MethodName := ⟨RX5, "in", "(JJJ)Z"⟩
abbrev cX5_refuse : ByteArray := prog_7_method_4_code
def yX5_refuse : MethodName := ⟨RX5, "refuse", "(I)I"⟩
abbrev cX5_isOne : ByteArray := prog_7_method_5_code
def yX5_isOne : MethodName := ⟨RX5, "isOne", "(I)Z"⟩
abbrev cX5_lesser : ByteArray := prog_7_method_6_code
def yX5_lesser : MethodName := ⟨RX5, "lesser", "(II)I"⟩
abbrev cX5_gift : ByteArray := prog_7_method_7_code
def yX5_gift : MethodName := ⟨RX5, "gift", "(III)I"⟩
abbrev cX5_addGift : ByteArray := prog_7_method_8_code
def yX5_addGift : MethodName := ⟨RX5, "addGift", "(III)V"⟩
abbrev cX5_given : ByteArray := prog_7_method_9_code
def yX5_given : MethodName := ⟨RX5, "given", "(II)I"⟩
abbrev cX5_got : ByteArray := prog_7_method_10_code
def yX5_got : MethodName := ⟨RX5, "got", "(II)I"⟩
abbrev cX5_cameBack : ByteArray := prog_7_method_11_code
def yX5_cameBack : MethodName := ⟨RX5, "cameBack", "(III)Z"⟩
abbrev cX5_counted : ByteArray := prog_7_method_12_code
def yX5_counted : MethodName := ⟨RX5, "counted", "(II)I"⟩
abbrev cX5_leave : ByteArray := prog_7_method_13_code
def yX5_leave : MethodName := ⟨RX5, "leave", "(I)I"⟩
abbrev cX5_target : ByteArray := prog_7_method_14_code
def yX5_target : MethodName := ⟨RX5, "target", "(I)I"⟩
abbrev cX5_grown : ByteArray := prog_7_method_15_code
def yX5_grown : MethodName := ⟨RX5, "grown", "(I)I"⟩
abbrev cX5_byKind : ByteArray := prog_7_method_16_code
def yX5_byKind : MethodName := ⟨RX5, "byKind", "(I)I"⟩
abbrev cX5_giveByKind : ByteArray := prog_7_method_17_code
def yX5_giveByKind : MethodName := ⟨RX5, "giveByKind", "(I)V"⟩
abbrev cX5_endDay : ByteArray := prog_7_method_18_code
def yX5_endDay : MethodName := ⟨RX5, "endDay", "()V"⟩
abbrev cX5_dayOn : ByteArray := prog_7_method_19_code
def yX5_dayOn : MethodName := ⟨RX5, "dayOn", "()V"⟩
abbrev cX5_carry : ByteArray := prog_7_method_20_code
def yX5_carry : MethodName := ⟨RX5, "carry", "(I)I"⟩
abbrev cX5_carryDays : ByteArray := prog_7_method_21_code
def yX5_carryDays : MethodName := ⟨RX5, "carryDays", "([IZ)V"⟩
abbrev cX5_open : ByteArray := prog_7_method_22_code
def yX5_open : MethodName := ⟨RX5, "open", "()V"⟩
abbrev cX5_close : ByteArray := prog_7_method_23_code
def yX5_close : MethodName := ⟨RX5, "close", "()V"⟩
abbrev cX5_run : ByteArray := prog_7_method_24_code
def yX5_run : MethodName := ⟨RX5, "run", "(I)V"⟩
abbrev cX5_all : ByteArray := prog_7_method_25_code
def yX5_all : MethodName := ⟨RX5, "all", "()I"⟩
abbrev cX5_feed : ByteArray := prog_7_method_26_code
def yX5_feed : MethodName := ⟨RX5, "feed", "(I)I"⟩
abbrev cX5_here : ByteArray := prog_7_method_27_code
def yX5_here : MethodName := ⟨RX5, "here", "()I"⟩
abbrev cX5_readDigit : ByteArray := prog_7_method_28_code
def yX5_readDigit : MethodName := ⟨RX5, "readDigit", "()I"⟩
abbrev cX5_readNumber : ByteArray := prog_7_method_29_code
def yX5_readNumber : MethodName := ⟨RX5, "readNumber", "(I)I"⟩
abbrev cX5_take : ByteArray := prog_7_method_30_code
def yX5_take : MethodName := ⟨RX5, "take", "(I)V"⟩
abbrev cX5_readStatement : ByteArray := prog_7_method_31_code
def yX5_readStatement : MethodName := ⟨RX5, "readStatement", "()V"⟩
abbrev cX5_isGood : ByteArray := prog_7_method_32_code
def yX5_isGood : MethodName := ⟨RX5, "isGood", "(I)Z"⟩
abbrev cX5_comes : ByteArray := prog_7_method_33_code
def yX5_comes : MethodName := ⟨RX5, "comes", "(I)V"⟩
abbrev cX5_land : ByteArray := prog_7_method_34_code
def yX5_land : MethodName := ⟨RX5, "land", "()I"⟩
abbrev cX5_person : ByteArray := prog_7_method_35_code
def yX5_person : MethodName := ⟨RX5, "person", "(II)I"⟩
abbrev cX5_put : ByteArray := prog_7_method_36_code
def yX5_put : MethodName := ⟨RX5, "put", "(III)I"⟩
abbrev cX5_set : ByteArray := prog_7_method_37_code
def yX5_set : MethodName := ⟨RX5, "set", "(II)I"⟩
abbrev cX5_wrongGift : ByteArray := prog_7_method_38_code
def yX5_wrongGift : MethodName := ⟨RX5, "wrongGift", "(III)I"⟩
abbrev cX5_give : ByteArray := prog_7_method_39_code
def yX5_give : MethodName := ⟨RX5, "give", "(III)I"⟩
abbrev cX5_evening : ByteArray := prog_7_method_40_code
def yX5_evening : MethodName := ⟨RX5, "evening", "()I"⟩
abbrev cX5_day : ByteArray := prog_7_method_41_code
def yX5_day : MethodName := ⟨RX5, "day", "()I"⟩
abbrev cX5_gives : ByteArray := prog_7_method_42_code
def yX5_gives : MethodName := ⟨RX5, "gives", "(I)I"⟩
abbrev cX5_wrongDays : ByteArray := prog_7_method_43_code
def yX5_wrongDays : MethodName := ⟨RX5, "wrongDays", "(III)I"⟩
abbrev cX5_wrongOne : ByteArray := prog_7_method_44_code
def yX5_wrongOne : MethodName := ⟨RX5, "wrongOne", "(IIII)I"⟩
abbrev cX5_hasAfter : ByteArray := prog_7_method_45_code
def yX5_hasAfter : MethodName := ⟨RX5, "hasAfter", "(II)I"⟩
abbrev cX5_after : ByteArray := prog_7_method_46_code
def yX5_after : MethodName := ⟨RX5, "after", "(II)I"⟩
abbrev cX5_allAfter : ByteArray := prog_7_method_47_code
def yX5_allAfter : MethodName := ⟨RX5, "allAfter", "(I)I"⟩
abbrev cX5_all_ : ByteArray := prog_7_method_48_code
def yX5_all_ : MethodName := ⟨RX5, "all", "(I)I"⟩
abbrev cX5_enough : ByteArray := prog_7_method_49_code
def yX5_enough : MethodName := ⟨RX5, "enough", "(II)I"⟩
abbrev cX5_richestNow : ByteArray := prog_7_method_50_code
def yX5_richestNow : MethodName := ⟨RX5, "richestNow", "()I"⟩
abbrev cX5_richest : ByteArray := prog_7_method_51_code
def yX5_richest : MethodName := ⟨RX5, "richest", "(I)I"⟩
abbrev cX5_lost : ByteArray := prog_7_method_52_code
def yX5_lost : MethodName := ⟨RX5, "lost", "(I)I"⟩
abbrev cX5_grows : ByteArray := prog_7_method_53_code
def yX5_grows : MethodName := ⟨RX5, "grows", "(I)I"⟩
abbrev cX5_rest : ByteArray := prog_7_method_54_code
def yX5_rest : MethodName := ⟨RX5, "rest", "()I"⟩
abbrev cX5_isAsThen : ByteArray := prog_7_method_55_code
def yX5_isAsThen : MethodName := ⟨RX5, "isAsThen", "()Z"⟩
abbrev cX5_choose : ByteArray := prog_7_method_56_code
def yX5_choose : MethodName := ⟨RX5, "choose", "(II)V"⟩
abbrev cX5_power : ByteArray := prog_7_method_57_code
def yX5_power : MethodName := ⟨RX5, "power", "(I)I"⟩
abbrev cX5_byRow : ByteArray := prog_7_method_58_code
def yX5_byRow : MethodName := ⟨RX5, "byRow", "(III)I"⟩
abbrev cX5_findMost : ByteArray := prog_7_method_59_code
def yX5_findMost : MethodName := ⟨RX5, "findMost", "(II)V"⟩
abbrev cX5_most : ByteArray := prog_7_method_60_code
def yX5_most : MethodName := ⟨RX5, "most", "(II)I"⟩
abbrev cX5_choice : ByteArray := prog_7_method_61_code
def yX5_choice : MethodName := ⟨RX5, "choice", "(III)I"⟩
abbrev cX5_gap : ByteArray := prog_7_method_62_code
def yX5_gap : MethodName := ⟨RX5, "gap", "(II)I"⟩
abbrev cX5_feast : ByteArray := prog_7_method_63_code
def yX5_feast : MethodName := ⟨RX5, "feast", "(III)I"⟩
abbrev cX5_isAimedAt : ByteArray := prog_7_method_64_code
def yX5_isAimedAt : MethodName := ⟨RX5, "isAimedAt", "(I)Z"⟩
abbrev cX5_stuck : ByteArray := prog_7_method_65_code
def yX5_stuck : MethodName := ⟨RX5, "stuck", "()I"⟩
abbrev cX5_begins : ByteArray := prog_7_method_66_code
def yX5_begins : MethodName := ⟨RX5, "begins", "()I"⟩
abbrev cX5_helps : ByteArray := prog_7_method_67_code
def yX5_helps : MethodName := ⟨RX5, "helps", "()I"⟩
abbrev cX5_hasBy : ByteArray := prog_7_method_68_code
def yX5_hasBy : MethodName := ⟨RX5, "hasBy", "(IIII)I"⟩
abbrev cX5_byLaw : ByteArray := prog_7_method_69_code
def yX5_byLaw : MethodName := ⟨RX5, "byLaw", "(III)I"⟩
abbrev cX5_byBack : ByteArray := prog_7_method_70_code
def yX5_byBack : MethodName := ⟨RX5, "byBack", "(III)I"⟩
abbrev cX5_leastLaw : ByteArray := prog_7_method_71_code
def yX5_leastLaw : MethodName := ⟨RX5, "leastLaw", "(II)I"⟩
abbrev cX5_row : ByteArray := prog_7_method_72_code
def yX5_row : MethodName := ⟨RX5, "row", "(I)I"⟩
abbrev cX5_bookOf : ByteArray := prog_7_method_73_code
def yX5_bookOf : MethodName := ⟨RX5, "bookOf", "(IZ)I"⟩
abbrev cX5_found : ByteArray := prog_7_method_74_code
def yX5_found : MethodName := ⟨RX5, "found", "(I)I"⟩
abbrev cX5_judge : ByteArray := prog_7_method_75_code
def yX5_judge : MethodName := ⟨RX5, "judge", "(I)I"⟩
abbrev cX5_told : ByteArray := prog_7_method_76_code
def yX5_told : MethodName := ⟨RX5, "told", "()I"⟩
abbrev cX5_draw : ByteArray := prog_7_method_77_code
def yX5_draw : MethodName := ⟨RX5, "draw", "(I)I"⟩
abbrev cX5_seeds : ByteArray := prog_7_method_78_code
def yX5_seeds : MethodName := ⟨RX5, "seeds", "(II)I"⟩
abbrev cX5_carryMore : ByteArray := prog_7_method_79_code
def yX5_carryMore : MethodName := ⟨RX5, "carryMore", "(II)I"⟩
abbrev cX5_carryAll : ByteArray := prog_7_method_80_code
def yX5_carryAll : MethodName := ⟨RX5, "carryAll", "(Z)V"⟩
abbrev cX5_image : ByteArray := prog_7_method_81_code
def yX5_image : MethodName := ⟨RX5, "image", "()I"⟩
abbrev cX5_restore : ByteArray := prog_7_method_82_code
def yX5_restore : MethodName := ⟨RX5, "restore", "()I"⟩
abbrev cX5_sum : ByteArray := prog_7_method_83_code
def yX5_sum : MethodName := ⟨RX5, "sum", "(Z)I"⟩
abbrev cX5_count : ByteArray := prog_7_method_84_code
def yX5_count : MethodName := ⟨RX5, "count", "(I)I"⟩
def RJ6 : String := "java/lang/Integer"
def TJ6 : u_T := fun k => match k with
  | _ => ("", "", "", false)
def tyJ6 : Nat → FieldType := fun k => match k with
  | _ => .int
abbrev wsJ60 : List Cond := u_ws RJ6 TJ6 0
theorem nmJ6 : ∀ a, a < 0 → ∀ b, b < 0 → a ≠ b → (TJ6 a).2.1 ≠ (TJ6 b).2.1 := by decide +kernel
theorem tyJ6_ok : ∀ k, k < 0 → parseFieldDescriptor (TJ6 k).2.2.1 = some (tyJ6 k) := by decide +kernel
abbrev cJ6_bitCount_0f7a4 : ByteArray := prog_8_method_49_code
def yJ6_bitCount_0f7a4 : MethodName := ⟨RJ6, "bitCount", "(I)I"⟩
def RJ9 : String := "java/lang/Math"
def TJ9 : u_T := fun k => match k with
  | _ => ("", "", "", false)
def tyJ9 : Nat → FieldType := fun k => match k with
  | _ => .int
abbrev wsJ90 : List Cond := u_ws RJ9 TJ9 0
theorem nmJ9 : ∀ a, a < 0 → ∀ b, b < 0 → a ≠ b → (TJ9 a).2.1 ≠ (TJ9 b).2.1 := by decide +kernel
theorem tyJ9_ok : ∀ k, k < 0 → parseFieldDescriptor (TJ9 k).2.2.1 = some (tyJ9 k) := by decide +kernel
abbrev cJ9_max_7cf53 : ByteArray := prog_9_method_65_code
def yJ9_max_7cf53 : MethodName := ⟨RJ9, "max", "(II)I"⟩
abbrev cJ9_min_7cf53 : ByteArray := prog_9_method_69_code
def yJ9_min_7cf53 : MethodName := ⟨RJ9, "min", "(II)I"⟩
def RJ10 : String := "java/lang/System"
def TJ10 : u_T := fun k => match k with
  | _ => ("", "", "", false)
def tyJ10 : Nat → FieldType := fun k => match k with
  | _ => .int
abbrev wsJ100 : List Cond := u_ws RJ10 TJ10 0
theorem nmJ10 : ∀ a, a < 0 → ∀ b, b < 0 → a ≠ b → (TJ10 a).2.1 ≠ (TJ10 b).2.1 := by decide +kernel
theorem tyJ10_ok : ∀ k, k < 0 → parseFieldDescriptor (TJ10 k).2.2.1 = some (tyJ10 k) := by decide +kernel
def RL : String := "GaveTheDayBeforeLaw"
abbrev cL_law : ByteArray := code
def yL_law : MethodName := ⟨RL, "law", "([I)Z"⟩
abbrev vwCl : List vw_C := [(RX0, TX0, 3), (RX1, TX1, 3), (RX2, TX2, 8), (RX3, TX3, 9), (RX4, TX4, 10), (RX5, TX5, 39)]
