section
-- ===== PART A: goes FIRST, ahead of the names: the tables' words, and 'selects' of the private methods out of them =====
/-- a private method of a class that the tables say can be made, by its rows of tables_1 -/
def lw_okq (q : MethodName × Nat) : Prop := (q.1.cls ≠ "java/lang/invoke/MethodHandle" ∧ q.1.cls ≠ "java/lang/invoke/VarHandle") ∧ Cond.instantiable q.1.cls q.2 ∈ tables_1 ∧ Cond.privateMethod q.1 ∈ tables_1 ∧ Cond.instanceMethod q.1 ∈ tables_1
theorem lw_p0 : lw_okq (⟨"InventedBirthdays$Parser", "readHead", "()V"⟩, 9) := ⟨⟨by decide +kernel, by decide +kernel⟩, List.mem_of_getElem? (i := 122) (by decide +kernel), List.mem_of_getElem? (i := 239) (by decide +kernel), List.mem_of_getElem? (i := 240) (by decide +kernel)⟩
theorem lw_p1 : lw_okq (⟨"InventedBirthdays$Parser", "readToken", "()V"⟩, 9) := ⟨⟨by decide +kernel, by decide +kernel⟩, List.mem_of_getElem? (i := 122) (by decide +kernel), List.mem_of_getElem? (i := 243) (by decide +kernel), List.mem_of_getElem? (i := 244) (by decide +kernel)⟩
theorem lw_p2 : lw_okq (⟨"InventedBirthdays$Parser", "classAt", "(I)I"⟩, 9) := ⟨⟨by decide +kernel, by decide +kernel⟩, List.mem_of_getElem? (i := 122) (by decide +kernel), List.mem_of_getElem? (i := 247) (by decide +kernel), List.mem_of_getElem? (i := 248) (by decide +kernel)⟩
theorem lw_p3 : lw_okq (⟨"InventedBirthdays$Parser", "tokenIs", "(Ljava/lang/String;)Z"⟩, 9) := ⟨⟨by decide +kernel, by decide +kernel⟩, List.mem_of_getElem? (i := 122) (by decide +kernel), List.mem_of_getElem? (i := 255) (by decide +kernel), List.mem_of_getElem? (i := 256) (by decide +kernel)⟩
theorem lw_p4 : lw_okq (⟨"InventedBirthdays$Parser", "byteAt", "(I)I"⟩, 9) := ⟨⟨by decide +kernel, by decide +kernel⟩, List.mem_of_getElem? (i := 122) (by decide +kernel), List.mem_of_getElem? (i := 260) (by decide +kernel), List.mem_of_getElem? (i := 261) (by decide +kernel)⟩
theorem lw_p5 : lw_okq (⟨"InventedBirthdays$Parser", "fail", "(I)V"⟩, 9) := ⟨⟨by decide +kernel, by decide +kernel⟩, List.mem_of_getElem? (i := 122) (by decide +kernel), List.mem_of_getElem? (i := 265) (by decide +kernel), List.mem_of_getElem? (i := 266) (by decide +kernel)⟩
theorem lw_p6 : lw_okq (⟨"InventedBirthdays$Parser", "readNumber", "(II)I"⟩, 9) := ⟨⟨by decide +kernel, by decide +kernel⟩, List.mem_of_getElem? (i := 122) (by decide +kernel), List.mem_of_getElem? (i := 269) (by decide +kernel), List.mem_of_getElem? (i := 270) (by decide +kernel)⟩
theorem lw_p7 : lw_okq (⟨"InventedBirthdays$Parser", "nextIsLine", "()Z"⟩, 9) := ⟨⟨by decide +kernel, by decide +kernel⟩, List.mem_of_getElem? (i := 122) (by decide +kernel), List.mem_of_getElem? (i := 280) (by decide +kernel), List.mem_of_getElem? (i := 281) (by decide +kernel)⟩
theorem lw_p8 : lw_okq (⟨"InventedBirthdays$Parser", "readGarden", "()V"⟩, 9) := ⟨⟨by decide +kernel, by decide +kernel⟩, List.mem_of_getElem? (i := 122) (by decide +kernel), List.mem_of_getElem? (i := 285) (by decide +kernel), List.mem_of_getElem? (i := 286) (by decide +kernel)⟩
theorem lw_p9 : lw_okq (⟨"InventedBirthdays$Parser", "readChild", "()V"⟩, 9) := ⟨⟨by decide +kernel, by decide +kernel⟩, List.mem_of_getElem? (i := 122) (by decide +kernel), List.mem_of_getElem? (i := 297) (by decide +kernel), List.mem_of_getElem? (i := 298) (by decide +kernel)⟩
theorem lw_p10 : lw_okq (⟨"InventedBirthdays$Parser", "readName", "()I"⟩, 9) := ⟨⟨by decide +kernel, by decide +kernel⟩, List.mem_of_getElem? (i := 122) (by decide +kernel), List.mem_of_getElem? (i := 301) (by decide +kernel), List.mem_of_getElem? (i := 302) (by decide +kernel)⟩
theorem lw_p11 : lw_okq (⟨"InventedBirthdays$Parser", "readBirthday", "()V"⟩, 9) := ⟨⟨by decide +kernel, by decide +kernel⟩, List.mem_of_getElem? (i := 122) (by decide +kernel), List.mem_of_getElem? (i := 317) (by decide +kernel), List.mem_of_getElem? (i := 318) (by decide +kernel)⟩
theorem lw_p12 : lw_okq (⟨"InventedBirthdays$Parser", "readKnownChild", "()I"⟩, 9) := ⟨⟨by decide +kernel, by decide +kernel⟩, List.mem_of_getElem? (i := 122) (by decide +kernel), List.mem_of_getElem? (i := 321) (by decide +kernel), List.mem_of_getElem? (i := 322) (by decide +kernel)⟩
theorem lw_p13 : lw_okq (⟨"InventedBirthdays$Parser", "readDraw", "()V"⟩, 9) := ⟨⟨by decide +kernel, by decide +kernel⟩, List.mem_of_getElem? (i := 122) (by decide +kernel), List.mem_of_getElem? (i := 342) (by decide +kernel), List.mem_of_getElem? (i := 343) (by decide +kernel)⟩
theorem lw_p14 : lw_okq (⟨"InventedBirthdays$Parser", "readCakes", "()V"⟩, 9) := ⟨⟨by decide +kernel, by decide +kernel⟩, List.mem_of_getElem? (i := 122) (by decide +kernel), List.mem_of_getElem? (i := 359) (by decide +kernel), List.mem_of_getElem? (i := 360) (by decide +kernel)⟩
theorem lw_p15 : lw_okq (⟨"InventedBirthdays$Parser", "readDays", "()V"⟩, 9) := ⟨⟨by decide +kernel, by decide +kernel⟩, List.mem_of_getElem? (i := 122) (by decide +kernel), List.mem_of_getElem? (i := 367) (by decide +kernel), List.mem_of_getElem? (i := 368) (by decide +kernel)⟩
def lw_privs_1 : List (MethodName × Nat) := [(⟨"InventedBirthdays$Parser", "readHead", "()V"⟩, 9), (⟨"InventedBirthdays$Parser", "readToken", "()V"⟩, 9), (⟨"InventedBirthdays$Parser", "classAt", "(I)I"⟩, 9), (⟨"InventedBirthdays$Parser", "tokenIs", "(Ljava/lang/String;)Z"⟩, 9), (⟨"InventedBirthdays$Parser", "byteAt", "(I)I"⟩, 9), (⟨"InventedBirthdays$Parser", "fail", "(I)V"⟩, 9), (⟨"InventedBirthdays$Parser", "readNumber", "(II)I"⟩, 9), (⟨"InventedBirthdays$Parser", "nextIsLine", "()Z"⟩, 9), (⟨"InventedBirthdays$Parser", "readGarden", "()V"⟩, 9), (⟨"InventedBirthdays$Parser", "readChild", "()V"⟩, 9), (⟨"InventedBirthdays$Parser", "readName", "()I"⟩, 9), (⟨"InventedBirthdays$Parser", "readBirthday", "()V"⟩, 9), (⟨"InventedBirthdays$Parser", "readKnownChild", "()I"⟩, 9), (⟨"InventedBirthdays$Parser", "readDraw", "()V"⟩, 9), (⟨"InventedBirthdays$Parser", "readCakes", "()V"⟩, 9), (⟨"InventedBirthdays$Parser", "readDays", "()V"⟩, 9)]
theorem lw_r1 : ∀ q ∈ lw_privs_1, lw_okq q := List.forall_mem_cons.mpr ⟨lw_p0, List.forall_mem_cons.mpr ⟨lw_p1, List.forall_mem_cons.mpr ⟨lw_p2, List.forall_mem_cons.mpr ⟨lw_p3, List.forall_mem_cons.mpr ⟨lw_p4, List.forall_mem_cons.mpr ⟨lw_p5, List.forall_mem_cons.mpr ⟨lw_p6, List.forall_mem_cons.mpr ⟨lw_p7, List.forall_mem_cons.mpr ⟨lw_p8, List.forall_mem_cons.mpr ⟨lw_p9, List.forall_mem_cons.mpr ⟨lw_p10, List.forall_mem_cons.mpr ⟨lw_p11, List.forall_mem_cons.mpr ⟨lw_p12, List.forall_mem_cons.mpr ⟨lw_p13, List.forall_mem_cons.mpr ⟨lw_p14, List.forall_mem_cons.mpr ⟨lw_p15, fun _ h => absurd h List.not_mem_nil⟩⟩⟩⟩⟩⟩⟩⟩⟩⟩⟩⟩⟩⟩⟩⟩
theorem lw_p16 : lw_okq (⟨"InventedBirthdays$Registry", "beginNextDate", "()V"⟩, 20) := ⟨⟨by decide +kernel, by decide +kernel⟩, List.mem_of_getElem? (i := 28) (by decide +kernel), List.mem_of_getElem? (i := 382) (by decide +kernel), List.mem_of_getElem? (i := 383) (by decide +kernel)⟩
theorem lw_p17 : lw_okq (⟨"InventedBirthdays$Registry", "celebrate", "(I)Z"⟩, 20) := ⟨⟨by decide +kernel, by decide +kernel⟩, List.mem_of_getElem? (i := 28) (by decide +kernel), List.mem_of_getElem? (i := 386) (by decide +kernel), List.mem_of_getElem? (i := 387) (by decide +kernel)⟩
theorem lw_p18 : lw_okq (⟨"InventedBirthdays$Registry", "cakeFor", "(I)I"⟩, 20) := ⟨⟨by decide +kernel, by decide +kernel⟩, List.mem_of_getElem? (i := 28) (by decide +kernel), List.mem_of_getElem? (i := 391) (by decide +kernel), List.mem_of_getElem? (i := 392) (by decide +kernel)⟩
theorem lw_p19 : lw_okq (⟨"InventedBirthdays", "isFirstWithItsDate", "(I)Z"⟩, 10) := ⟨⟨by decide +kernel, by decide +kernel⟩, List.mem_of_getElem? (i := 20) (by decide +kernel), List.mem_of_getElem? (i := 512) (by decide +kernel), List.mem_of_getElem? (i := 513) (by decide +kernel)⟩
theorem lw_p20 : lw_okq (⟨"InventedBirthdays", "countBirthdaysIn", "(I)I"⟩, 10) := ⟨⟨by decide +kernel, by decide +kernel⟩, List.mem_of_getElem? (i := 20) (by decide +kernel), List.mem_of_getElem? (i := 520) (by decide +kernel), List.mem_of_getElem? (i := 521) (by decide +kernel)⟩
theorem lw_p21 : lw_okq (⟨"InventedBirthdays", "clash", "(II)Z"⟩, 10) := ⟨⟨by decide +kernel, by decide +kernel⟩, List.mem_of_getElem? (i := 20) (by decide +kernel), List.mem_of_getElem? (i := 539) (by decide +kernel), List.mem_of_getElem? (i := 540) (by decide +kernel)⟩
theorem lw_p22 : lw_okq (⟨"InventedBirthdays", "writeNumber", "(I)V"⟩, 10) := ⟨⟨by decide +kernel, by decide +kernel⟩, List.mem_of_getElem? (i := 20) (by decide +kernel), List.mem_of_getElem? (i := 559) (by decide +kernel), List.mem_of_getElem? (i := 560) (by decide +kernel)⟩
theorem lw_p23 : lw_okq (⟨"InventedBirthdays", "writeByte", "(I)V"⟩, 10) := ⟨⟨by decide +kernel, by decide +kernel⟩, List.mem_of_getElem? (i := 20) (by decide +kernel), List.mem_of_getElem? (i := 564) (by decide +kernel), List.mem_of_getElem? (i := 565) (by decide +kernel)⟩
theorem lw_p24 : lw_okq (⟨"java/lang/Throwable", "fillInStackTrace", "(I)Ljava/lang/Throwable;"⟩, 6) := ⟨⟨by decide +kernel, by decide +kernel⟩, List.mem_of_getElem? (i := 614) (by decide +kernel), List.mem_of_getElem? (i := 612) (by decide +kernel), List.mem_of_getElem? (i := 613) (by decide +kernel)⟩
theorem lw_p25 : lw_okq (⟨"InventedBirthdays", "appendFour", "(I)V"⟩, 10) := ⟨⟨by decide +kernel, by decide +kernel⟩, List.mem_of_getElem? (i := 20) (by decide +kernel), List.mem_of_getElem? (i := 643) (by decide +kernel), List.mem_of_getElem? (i := 644) (by decide +kernel)⟩
theorem lw_p26 : lw_okq (⟨"InventedBirthdays", "needGarden", "(I)V"⟩, 10) := ⟨⟨by decide +kernel, by decide +kernel⟩, List.mem_of_getElem? (i := 20) (by decide +kernel), List.mem_of_getElem? (i := 710) (by decide +kernel), List.mem_of_getElem? (i := 711) (by decide +kernel)⟩
theorem lw_p27 : lw_okq (⟨"InventedBirthdays", "needChild", "(I)V"⟩, 10) := ⟨⟨by decide +kernel, by decide +kernel⟩, List.mem_of_getElem? (i := 20) (by decide +kernel), List.mem_of_getElem? (i := 742) (by decide +kernel), List.mem_of_getElem? (i := 743) (by decide +kernel)⟩
theorem lw_p28 : lw_okq (⟨"InventedBirthdays", "forecastDays", "(I)V"⟩, 10) := ⟨⟨by decide +kernel, by decide +kernel⟩, List.mem_of_getElem? (i := 20) (by decide +kernel), List.mem_of_getElem? (i := 852) (by decide +kernel), List.mem_of_getElem? (i := 853) (by decide +kernel)⟩
theorem lw_p29 : lw_okq (⟨"InventedBirthdays$History", "stateAt", "(I)LInventedBirthdays$Registry;"⟩, 3) := ⟨⟨by decide +kernel, by decide +kernel⟩, List.mem_of_getElem? (i := 162) (by decide +kernel), List.mem_of_getElem? (i := 877) (by decide +kernel), List.mem_of_getElem? (i := 878) (by decide +kernel)⟩
theorem lw_p30 : lw_okq (⟨"InventedBirthdays", "stateIn", "(I)LInventedBirthdays$Registry;"⟩, 10) := ⟨⟨by decide +kernel, by decide +kernel⟩, List.mem_of_getElem? (i := 20) (by decide +kernel), List.mem_of_getElem? (i := 945) (by decide +kernel), List.mem_of_getElem? (i := 946) (by decide +kernel)⟩
theorem lw_p31 : lw_okq (⟨"InventedBirthdays", "isFilled", "(I)Z"⟩, 10) := ⟨⟨by decide +kernel, by decide +kernel⟩, List.mem_of_getElem? (i := 20) (by decide +kernel), List.mem_of_getElem? (i := 949) (by decide +kernel), List.mem_of_getElem? (i := 950) (by decide +kernel)⟩
def lw_privs_2 : List (MethodName × Nat) := [(⟨"InventedBirthdays$Registry", "beginNextDate", "()V"⟩, 20), (⟨"InventedBirthdays$Registry", "celebrate", "(I)Z"⟩, 20), (⟨"InventedBirthdays$Registry", "cakeFor", "(I)I"⟩, 20), (⟨"InventedBirthdays", "isFirstWithItsDate", "(I)Z"⟩, 10), (⟨"InventedBirthdays", "countBirthdaysIn", "(I)I"⟩, 10), (⟨"InventedBirthdays", "clash", "(II)Z"⟩, 10), (⟨"InventedBirthdays", "writeNumber", "(I)V"⟩, 10), (⟨"InventedBirthdays", "writeByte", "(I)V"⟩, 10), (⟨"java/lang/Throwable", "fillInStackTrace", "(I)Ljava/lang/Throwable;"⟩, 6), (⟨"InventedBirthdays", "appendFour", "(I)V"⟩, 10), (⟨"InventedBirthdays", "needGarden", "(I)V"⟩, 10), (⟨"InventedBirthdays", "needChild", "(I)V"⟩, 10), (⟨"InventedBirthdays", "forecastDays", "(I)V"⟩, 10), (⟨"InventedBirthdays$History", "stateAt", "(I)LInventedBirthdays$Registry;"⟩, 3), (⟨"InventedBirthdays", "stateIn", "(I)LInventedBirthdays$Registry;"⟩, 10), (⟨"InventedBirthdays", "isFilled", "(I)Z"⟩, 10)]
theorem lw_r2 : ∀ q ∈ lw_privs_2, lw_okq q := List.forall_mem_cons.mpr ⟨lw_p16, List.forall_mem_cons.mpr ⟨lw_p17, List.forall_mem_cons.mpr ⟨lw_p18, List.forall_mem_cons.mpr ⟨lw_p19, List.forall_mem_cons.mpr ⟨lw_p20, List.forall_mem_cons.mpr ⟨lw_p21, List.forall_mem_cons.mpr ⟨lw_p22, List.forall_mem_cons.mpr ⟨lw_p23, List.forall_mem_cons.mpr ⟨lw_p24, List.forall_mem_cons.mpr ⟨lw_p25, List.forall_mem_cons.mpr ⟨lw_p26, List.forall_mem_cons.mpr ⟨lw_p27, List.forall_mem_cons.mpr ⟨lw_p28, List.forall_mem_cons.mpr ⟨lw_p29, List.forall_mem_cons.mpr ⟨lw_p30, List.forall_mem_cons.mpr ⟨lw_p31, fun _ h => absurd h List.not_mem_nil⟩⟩⟩⟩⟩⟩⟩⟩⟩⟩⟩⟩⟩⟩⟩⟩
theorem lw_p32 : lw_okq (⟨"InventedBirthdays", "writeName", "(I)V"⟩, 10) := ⟨⟨by decide +kernel, by decide +kernel⟩, List.mem_of_getElem? (i := 20) (by decide +kernel), List.mem_of_getElem? (i := 983) (by decide +kernel), List.mem_of_getElem? (i := 984) (by decide +kernel)⟩
theorem lw_p33 : lw_okq (⟨"InventedBirthdaysModel", "plants", "(I)V"⟩, 24) := ⟨⟨by decide +kernel, by decide +kernel⟩, List.mem_of_getElem? (i := 996) (by decide +kernel), List.mem_of_getElem? (i := 1002) (by decide +kernel), List.mem_of_getElem? (i := 1003) (by decide +kernel)⟩
theorem lw_p34 : lw_okq (⟨"InventedBirthdaysModel", "spellsKey", "(I)V"⟩, 24) := ⟨⟨by decide +kernel, by decide +kernel⟩, List.mem_of_getElem? (i := 996) (by decide +kernel), List.mem_of_getElem? (i := 1006) (by decide +kernel), List.mem_of_getElem? (i := 1007) (by decide +kernel)⟩
theorem lw_p35 : lw_okq (⟨"InventedBirthdaysModel", "comes", "(IIII)V"⟩, 24) := ⟨⟨by decide +kernel, by decide +kernel⟩, List.mem_of_getElem? (i := 996) (by decide +kernel), List.mem_of_getElem? (i := 1010) (by decide +kernel), List.mem_of_getElem? (i := 1011) (by decide +kernel)⟩
theorem lw_p36 : lw_okq (⟨"InventedBirthdaysModel", "tries", "(I)I"⟩, 24) := ⟨⟨by decide +kernel, by decide +kernel⟩, List.mem_of_getElem? (i := 996) (by decide +kernel), List.mem_of_getElem? (i := 1017) (by decide +kernel), List.mem_of_getElem? (i := 1018) (by decide +kernel)⟩
theorem lw_p37 : lw_okq (⟨"InventedBirthdaysModel", "reason", "(III)I"⟩, 24) := ⟨⟨by decide +kernel, by decide +kernel⟩, List.mem_of_getElem? (i := 996) (by decide +kernel), List.mem_of_getElem? (i := 1024) (by decide +kernel), List.mem_of_getElem? (i := 1025) (by decide +kernel)⟩
theorem lw_p38 : lw_okq (⟨"InventedBirthdaysModel", "isTaken", "(III)Z"⟩, 24) := ⟨⟨by decide +kernel, by decide +kernel⟩, List.mem_of_getElem? (i := 996) (by decide +kernel), List.mem_of_getElem? (i := 1028) (by decide +kernel), List.mem_of_getElem? (i := 1029) (by decide +kernel)⟩
theorem lw_p39 : lw_okq (⟨"InventedBirthdaysModel", "liking", "(I)I"⟩, 24) := ⟨⟨by decide +kernel, by decide +kernel⟩, List.mem_of_getElem? (i := 996) (by decide +kernel), List.mem_of_getElem? (i := 1032) (by decide +kernel), List.mem_of_getElem? (i := 1033) (by decide +kernel)⟩
theorem lw_p40 : lw_okq (⟨"InventedBirthdaysModel", "takesDraw", "(II)V"⟩, 24) := ⟨⟨by decide +kernel, by decide +kernel⟩, List.mem_of_getElem? (i := 996) (by decide +kernel), List.mem_of_getElem? (i := 1036) (by decide +kernel), List.mem_of_getElem? (i := 1037) (by decide +kernel)⟩
theorem lw_p41 : lw_okq (⟨"InventedBirthdaysModel", "passes", "(I)I"⟩, 24) := ⟨⟨by decide +kernel, by decide +kernel⟩, List.mem_of_getElem? (i := 996) (by decide +kernel), List.mem_of_getElem? (i := 1040) (by decide +kernel), List.mem_of_getElem? (i := 1041) (by decide +kernel)⟩
theorem lw_p42 : lw_okq (⟨"InventedBirthdaysModel", "passesDay", "()I"⟩, 24) := ⟨⟨by decide +kernel, by decide +kernel⟩, List.mem_of_getElem? (i := 996) (by decide +kernel), List.mem_of_getElem? (i := 1044) (by decide +kernel), List.mem_of_getElem? (i := 1045) (by decide +kernel)⟩
theorem lw_p43 : lw_okq (⟨"InventedBirthdaysModel", "celebrates", "(I)Z"⟩, 24) := ⟨⟨by decide +kernel, by decide +kernel⟩, List.mem_of_getElem? (i := 996) (by decide +kernel), List.mem_of_getElem? (i := 1048) (by decide +kernel), List.mem_of_getElem? (i := 1049) (by decide +kernel)⟩
theorem lw_p44 : lw_okq (⟨"InventedBirthdaysModel", "cakeFor", "(I)I"⟩, 24) := ⟨⟨by decide +kernel, by decide +kernel⟩, List.mem_of_getElem? (i := 996) (by decide +kernel), List.mem_of_getElem? (i := 1052) (by decide +kernel), List.mem_of_getElem? (i := 1053) (by decide +kernel)⟩
theorem lw_p45 : lw_okq (⟨"InventedBirthdaysModel", "strength", "(II)I"⟩, 24) := ⟨⟨by decide +kernel, by decide +kernel⟩, List.mem_of_getElem? (i := 996) (by decide +kernel), List.mem_of_getElem? (i := 1056) (by decide +kernel), List.mem_of_getElem? (i := 1057) (by decide +kernel)⟩
theorem lw_p46 : lw_okq (⟨"InventedBirthdaysModel", "refuse", "(I)I"⟩, 24) := ⟨⟨by decide +kernel, by decide +kernel⟩, List.mem_of_getElem? (i := 996) (by decide +kernel), List.mem_of_getElem? (i := 1141) (by decide +kernel), List.mem_of_getElem? (i := 1142) (by decide +kernel)⟩
theorem lw_p47 : lw_okq (⟨"InventedBirthdaysModel", "feeds", "(I)V"⟩, 24) := ⟨⟨by decide +kernel, by decide +kernel⟩, List.mem_of_getElem? (i := 996) (by decide +kernel), List.mem_of_getElem? (i := 1145) (by decide +kernel), List.mem_of_getElem? (i := 1146) (by decide +kernel)⟩
def lw_privs_3 : List (MethodName × Nat) := [(⟨"InventedBirthdays", "writeName", "(I)V"⟩, 10), (⟨"InventedBirthdaysModel", "plants", "(I)V"⟩, 24), (⟨"InventedBirthdaysModel", "spellsKey", "(I)V"⟩, 24), (⟨"InventedBirthdaysModel", "comes", "(IIII)V"⟩, 24), (⟨"InventedBirthdaysModel", "tries", "(I)I"⟩, 24), (⟨"InventedBirthdaysModel", "reason", "(III)I"⟩, 24), (⟨"InventedBirthdaysModel", "isTaken", "(III)Z"⟩, 24), (⟨"InventedBirthdaysModel", "liking", "(I)I"⟩, 24), (⟨"InventedBirthdaysModel", "takesDraw", "(II)V"⟩, 24), (⟨"InventedBirthdaysModel", "passes", "(I)I"⟩, 24), (⟨"InventedBirthdaysModel", "passesDay", "()I"⟩, 24), (⟨"InventedBirthdaysModel", "celebrates", "(I)Z"⟩, 24), (⟨"InventedBirthdaysModel", "cakeFor", "(I)I"⟩, 24), (⟨"InventedBirthdaysModel", "strength", "(II)I"⟩, 24), (⟨"InventedBirthdaysModel", "refuse", "(I)I"⟩, 24), (⟨"InventedBirthdaysModel", "feeds", "(I)V"⟩, 24)]
theorem lw_r3 : ∀ q ∈ lw_privs_3, lw_okq q := List.forall_mem_cons.mpr ⟨lw_p32, List.forall_mem_cons.mpr ⟨lw_p33, List.forall_mem_cons.mpr ⟨lw_p34, List.forall_mem_cons.mpr ⟨lw_p35, List.forall_mem_cons.mpr ⟨lw_p36, List.forall_mem_cons.mpr ⟨lw_p37, List.forall_mem_cons.mpr ⟨lw_p38, List.forall_mem_cons.mpr ⟨lw_p39, List.forall_mem_cons.mpr ⟨lw_p40, List.forall_mem_cons.mpr ⟨lw_p41, List.forall_mem_cons.mpr ⟨lw_p42, List.forall_mem_cons.mpr ⟨lw_p43, List.forall_mem_cons.mpr ⟨lw_p44, List.forall_mem_cons.mpr ⟨lw_p45, List.forall_mem_cons.mpr ⟨lw_p46, List.forall_mem_cons.mpr ⟨lw_p47, fun _ h => absurd h List.not_mem_nil⟩⟩⟩⟩⟩⟩⟩⟩⟩⟩⟩⟩⟩⟩⟩⟩
theorem lw_p48 : lw_okq (⟨"InventedBirthdaysModel", "told", "(I)I"⟩, 24) := ⟨⟨by decide +kernel, by decide +kernel⟩, List.mem_of_getElem? (i := 996) (by decide +kernel), List.mem_of_getElem? (i := 1149) (by decide +kernel), List.mem_of_getElem? (i := 1150) (by decide +kernel)⟩
theorem lw_p49 : lw_okq (⟨"InventedBirthdaysModel", "putsAside", "()V"⟩, 24) := ⟨⟨by decide +kernel, by decide +kernel⟩, List.mem_of_getElem? (i := 996) (by decide +kernel), List.mem_of_getElem? (i := 1160) (by decide +kernel), List.mem_of_getElem? (i := 1161) (by decide +kernel)⟩
theorem lw_p50 : lw_okq (⟨"InventedBirthdaysModel", "readsText", "(I)V"⟩, 24) := ⟨⟨by decide +kernel, by decide +kernel⟩, List.mem_of_getElem? (i := 996) (by decide +kernel), List.mem_of_getElem? (i := 1164) (by decide +kernel), List.mem_of_getElem? (i := 1165) (by decide +kernel)⟩
theorem lw_p51 : lw_okq (⟨"InventedBirthdaysModel", "next", "()V"⟩, 24) := ⟨⟨by decide +kernel, by decide +kernel⟩, List.mem_of_getElem? (i := 996) (by decide +kernel), List.mem_of_getElem? (i := 1168) (by decide +kernel), List.mem_of_getElem? (i := 1169) (by decide +kernel)⟩
theorem lw_p52 : lw_okq (⟨"InventedBirthdaysModel", "isKey", "(I)Z"⟩, 24) := ⟨⟨by decide +kernel, by decide +kernel⟩, List.mem_of_getElem? (i := 996) (by decide +kernel), List.mem_of_getElem? (i := 1178) (by decide +kernel), List.mem_of_getElem? (i := 1179) (by decide +kernel)⟩
theorem lw_p53 : lw_okq (⟨"InventedBirthdaysModel", "errs", "(I)V"⟩, 24) := ⟨⟨by decide +kernel, by decide +kernel⟩, List.mem_of_getElem? (i := 996) (by decide +kernel), List.mem_of_getElem? (i := 1182) (by decide +kernel), List.mem_of_getElem? (i := 1183) (by decide +kernel)⟩
theorem lw_p54 : lw_okq (⟨"InventedBirthdaysModel", "takesNumber", "(II)I"⟩, 24) := ⟨⟨by decide +kernel, by decide +kernel⟩, List.mem_of_getElem? (i := 996) (by decide +kernel), List.mem_of_getElem? (i := 1186) (by decide +kernel), List.mem_of_getElem? (i := 1187) (by decide +kernel)⟩
theorem lw_p55 : lw_okq (⟨"InventedBirthdaysModel", "here", "(II)I"⟩, 24) := ⟨⟨by decide +kernel, by decide +kernel⟩, List.mem_of_getElem? (i := 996) (by decide +kernel), List.mem_of_getElem? (i := 1190) (by decide +kernel), List.mem_of_getElem? (i := 1191) (by decide +kernel)⟩
theorem lw_p56 : lw_okq (⟨"InventedBirthdaysModel", "goesOn", "()V"⟩, 24) := ⟨⟨by decide +kernel, by decide +kernel⟩, List.mem_of_getElem? (i := 996) (by decide +kernel), List.mem_of_getElem? (i := 1194) (by decide +kernel), List.mem_of_getElem? (i := 1195) (by decide +kernel)⟩
theorem lw_p57 : lw_okq (⟨"InventedBirthdaysModel", "readsLine", "()V"⟩, 24) := ⟨⟨by decide +kernel, by decide +kernel⟩, List.mem_of_getElem? (i := 996) (by decide +kernel), List.mem_of_getElem? (i := 1198) (by decide +kernel), List.mem_of_getElem? (i := 1199) (by decide +kernel)⟩
theorem lw_p58 : lw_okq (⟨"InventedBirthdaysModel", "readsGarden", "()V"⟩, 24) := ⟨⟨by decide +kernel, by decide +kernel⟩, List.mem_of_getElem? (i := 996) (by decide +kernel), List.mem_of_getElem? (i := 1202) (by decide +kernel), List.mem_of_getElem? (i := 1203) (by decide +kernel)⟩
theorem lw_p59 : lw_okq (⟨"InventedBirthdaysModel", "readsChild", "()V"⟩, 24) := ⟨⟨by decide +kernel, by decide +kernel⟩, List.mem_of_getElem? (i := 996) (by decide +kernel), List.mem_of_getElem? (i := 1206) (by decide +kernel), List.mem_of_getElem? (i := 1207) (by decide +kernel)⟩
theorem lw_p60 : lw_okq (⟨"InventedBirthdaysModel", "spellsHere", "()V"⟩, 24) := ⟨⟨by decide +kernel, by decide +kernel⟩, List.mem_of_getElem? (i := 996) (by decide +kernel), List.mem_of_getElem? (i := 1210) (by decide +kernel), List.mem_of_getElem? (i := 1211) (by decide +kernel)⟩
theorem lw_p61 : lw_okq (⟨"InventedBirthdaysModel", "childSpelled", "()I"⟩, 24) := ⟨⟨by decide +kernel, by decide +kernel⟩, List.mem_of_getElem? (i := 996) (by decide +kernel), List.mem_of_getElem? (i := 1214) (by decide +kernel), List.mem_of_getElem? (i := 1215) (by decide +kernel)⟩
theorem lw_p62 : lw_okq (⟨"InventedBirthdaysModel", "readsBirthday", "()V"⟩, 24) := ⟨⟨by decide +kernel, by decide +kernel⟩, List.mem_of_getElem? (i := 996) (by decide +kernel), List.mem_of_getElem? (i := 1218) (by decide +kernel), List.mem_of_getElem? (i := 1219) (by decide +kernel)⟩
theorem lw_p63 : lw_okq (⟨"InventedBirthdaysModel", "childHere", "()I"⟩, 24) := ⟨⟨by decide +kernel, by decide +kernel⟩, List.mem_of_getElem? (i := 996) (by decide +kernel), List.mem_of_getElem? (i := 1222) (by decide +kernel), List.mem_of_getElem? (i := 1223) (by decide +kernel)⟩
def lw_privs_4 : List (MethodName × Nat) := [(⟨"InventedBirthdaysModel", "told", "(I)I"⟩, 24), (⟨"InventedBirthdaysModel", "putsAside", "()V"⟩, 24), (⟨"InventedBirthdaysModel", "readsText", "(I)V"⟩, 24), (⟨"InventedBirthdaysModel", "next", "()V"⟩, 24), (⟨"InventedBirthdaysModel", "isKey", "(I)Z"⟩, 24), (⟨"InventedBirthdaysModel", "errs", "(I)V"⟩, 24), (⟨"InventedBirthdaysModel", "takesNumber", "(II)I"⟩, 24), (⟨"InventedBirthdaysModel", "here", "(II)I"⟩, 24), (⟨"InventedBirthdaysModel", "goesOn", "()V"⟩, 24), (⟨"InventedBirthdaysModel", "readsLine", "()V"⟩, 24), (⟨"InventedBirthdaysModel", "readsGarden", "()V"⟩, 24), (⟨"InventedBirthdaysModel", "readsChild", "()V"⟩, 24), (⟨"InventedBirthdaysModel", "spellsHere", "()V"⟩, 24), (⟨"InventedBirthdaysModel", "childSpelled", "()I"⟩, 24), (⟨"InventedBirthdaysModel", "readsBirthday", "()V"⟩, 24), (⟨"InventedBirthdaysModel", "childHere", "()I"⟩, 24)]
theorem lw_r4 : ∀ q ∈ lw_privs_4, lw_okq q := List.forall_mem_cons.mpr ⟨lw_p48, List.forall_mem_cons.mpr ⟨lw_p49, List.forall_mem_cons.mpr ⟨lw_p50, List.forall_mem_cons.mpr ⟨lw_p51, List.forall_mem_cons.mpr ⟨lw_p52, List.forall_mem_cons.mpr ⟨lw_p53, List.forall_mem_cons.mpr ⟨lw_p54, List.forall_mem_cons.mpr ⟨lw_p55, List.forall_mem_cons.mpr ⟨lw_p56, List.forall_mem_cons.mpr ⟨lw_p57, List.forall_mem_cons.mpr ⟨lw_p58, List.forall_mem_cons.mpr ⟨lw_p59, List.forall_mem_cons.mpr ⟨lw_p60, List.forall_mem_cons.mpr ⟨lw_p61, List.forall_mem_cons.mpr ⟨lw_p62, List.forall_mem_cons.mpr ⟨lw_p63, fun _ h => absurd h List.not_mem_nil⟩⟩⟩⟩⟩⟩⟩⟩⟩⟩⟩⟩⟩⟩⟩⟩
theorem lw_p64 : lw_okq (⟨"InventedBirthdaysModel", "readsDraw", "()V"⟩, 24) := ⟨⟨by decide +kernel, by decide +kernel⟩, List.mem_of_getElem? (i := 996) (by decide +kernel), List.mem_of_getElem? (i := 1229) (by decide +kernel), List.mem_of_getElem? (i := 1230) (by decide +kernel)⟩
theorem lw_p65 : lw_okq (⟨"InventedBirthdaysModel", "readsCakes", "()V"⟩, 24) := ⟨⟨by decide +kernel, by decide +kernel⟩, List.mem_of_getElem? (i := 996) (by decide +kernel), List.mem_of_getElem? (i := 1233) (by decide +kernel), List.mem_of_getElem? (i := 1234) (by decide +kernel)⟩
theorem lw_p66 : lw_okq (⟨"InventedBirthdaysModel", "readsDays", "()V"⟩, 24) := ⟨⟨by decide +kernel, by decide +kernel⟩, List.mem_of_getElem? (i := 996) (by decide +kernel), List.mem_of_getElem? (i := 1237) (by decide +kernel), List.mem_of_getElem? (i := 1238) (by decide +kernel)⟩
theorem lw_p67 : lw_okq (⟨"InventedBirthdaysModel", "isTooLate", "(I)Z"⟩, 24) := ⟨⟨by decide +kernel, by decide +kernel⟩, List.mem_of_getElem? (i := 996) (by decide +kernel), List.mem_of_getElem? (i := 1241) (by decide +kernel), List.mem_of_getElem? (i := 1242) (by decide +kernel)⟩
theorem lw_p68 : lw_okq (⟨"InventedBirthdaysModel", "putsBack", "()V"⟩, 24) := ⟨⟨by decide +kernel, by decide +kernel⟩, List.mem_of_getElem? (i := 996) (by decide +kernel), List.mem_of_getElem? (i := 1246) (by decide +kernel), List.mem_of_getElem? (i := 1247) (by decide +kernel)⟩
theorem lw_p69 : lw_okq (⟨"InventedBirthdaysModel", "isGarden", "(I)Z"⟩, 24) := ⟨⟨by decide +kernel, by decide +kernel⟩, List.mem_of_getElem? (i := 996) (by decide +kernel), List.mem_of_getElem? (i := 1298) (by decide +kernel), List.mem_of_getElem? (i := 1299) (by decide +kernel)⟩
theorem lw_p70 : lw_okq (⟨"InventedBirthdaysModel", "partyOn", "(II)I"⟩, 24) := ⟨⟨by decide +kernel, by decide +kernel⟩, List.mem_of_getElem? (i := 996) (by decide +kernel), List.mem_of_getElem? (i := 1313) (by decide +kernel), List.mem_of_getElem? (i := 1314) (by decide +kernel)⟩
theorem lw_p71 : lw_okq (⟨"InventedBirthdaysModel", "ofChild", "(II)I"⟩, 24) := ⟨⟨by decide +kernel, by decide +kernel⟩, List.mem_of_getElem? (i := 996) (by decide +kernel), List.mem_of_getElem? (i := 1325) (by decide +kernel), List.mem_of_getElem? (i := 1326) (by decide +kernel)⟩
theorem lw_p72 : lw_okq (⟨"InventedBirthdaysModel", "isChild", "(I)Z"⟩, 24) := ⟨⟨by decide +kernel, by decide +kernel⟩, List.mem_of_getElem? (i := 996) (by decide +kernel), List.mem_of_getElem? (i := 1329) (by decide +kernel), List.mem_of_getElem? (i := 1330) (by decide +kernel)⟩
theorem lw_p73 : lw_okq (⟨"InventedBirthdaysModel", "hasBirthday", "(I)Z"⟩, 24) := ⟨⟨by decide +kernel, by decide +kernel⟩, List.mem_of_getElem? (i := 996) (by decide +kernel), List.mem_of_getElem? (i := 1353) (by decide +kernel), List.mem_of_getElem? (i := 1354) (by decide +kernel)⟩
theorem lw_p74 : lw_okq (⟨"InventedBirthdaysModel", "daysTo", "(I)I"⟩, 24) := ⟨⟨by decide +kernel, by decide +kernel⟩, List.mem_of_getElem? (i := 996) (by decide +kernel), List.mem_of_getElem? (i := 1357) (by decide +kernel), List.mem_of_getElem? (i := 1358) (by decide +kernel)⟩
theorem lw_p75 : lw_okq (⟨"InventedBirthdaysModel", "sharing", "(I)I"⟩, 24) := ⟨⟨by decide +kernel, by decide +kernel⟩, List.mem_of_getElem? (i := 996) (by decide +kernel), List.mem_of_getElem? (i := 1381) (by decide +kernel), List.mem_of_getElem? (i := 1382) (by decide +kernel)⟩
theorem lw_p76 : lw_okq (⟨"InventedBirthdaysModel", "isFirst", "(I)Z"⟩, 24) := ⟨⟨by decide +kernel, by decide +kernel⟩, List.mem_of_getElem? (i := 996) (by decide +kernel), List.mem_of_getElem? (i := 1389) (by decide +kernel), List.mem_of_getElem? (i := 1390) (by decide +kernel)⟩
theorem lw_p77 : lw_okq (⟨"InventedBirthdaysModel", "inMonth", "(I)I"⟩, 24) := ⟨⟨by decide +kernel, by decide +kernel⟩, List.mem_of_getElem? (i := 996) (by decide +kernel), List.mem_of_getElem? (i := 1401) (by decide +kernel), List.mem_of_getElem? (i := 1402) (by decide +kernel)⟩
theorem lw_p78 : lw_okq (⟨"InventedBirthdaysModel", "sumOf", "(I)I"⟩, 24) := ⟨⟨by decide +kernel, by decide +kernel⟩, List.mem_of_getElem? (i := 996) (by decide +kernel), List.mem_of_getElem? (i := 1448) (by decide +kernel), List.mem_of_getElem? (i := 1449) (by decide +kernel)⟩
theorem lw_p79 : lw_okq (⟨"InventedBirthdaysModel", "remembers", "()V"⟩, 24) := ⟨⟨by decide +kernel, by decide +kernel⟩, List.mem_of_getElem? (i := 996) (by decide +kernel), List.mem_of_getElem? (i := 1460) (by decide +kernel), List.mem_of_getElem? (i := 1461) (by decide +kernel)⟩
def lw_privs_5 : List (MethodName × Nat) := [(⟨"InventedBirthdaysModel", "readsDraw", "()V"⟩, 24), (⟨"InventedBirthdaysModel", "readsCakes", "()V"⟩, 24), (⟨"InventedBirthdaysModel", "readsDays", "()V"⟩, 24), (⟨"InventedBirthdaysModel", "isTooLate", "(I)Z"⟩, 24), (⟨"InventedBirthdaysModel", "putsBack", "()V"⟩, 24), (⟨"InventedBirthdaysModel", "isGarden", "(I)Z"⟩, 24), (⟨"InventedBirthdaysModel", "partyOn", "(II)I"⟩, 24), (⟨"InventedBirthdaysModel", "ofChild", "(II)I"⟩, 24), (⟨"InventedBirthdaysModel", "isChild", "(I)Z"⟩, 24), (⟨"InventedBirthdaysModel", "hasBirthday", "(I)Z"⟩, 24), (⟨"InventedBirthdaysModel", "daysTo", "(I)I"⟩, 24), (⟨"InventedBirthdaysModel", "sharing", "(I)I"⟩, 24), (⟨"InventedBirthdaysModel", "isFirst", "(I)Z"⟩, 24), (⟨"InventedBirthdaysModel", "inMonth", "(I)I"⟩, 24), (⟨"InventedBirthdaysModel", "sumOf", "(I)I"⟩, 24), (⟨"InventedBirthdaysModel", "remembers", "()V"⟩, 24)]
theorem lw_r5 : ∀ q ∈ lw_privs_5, lw_okq q := List.forall_mem_cons.mpr ⟨lw_p64, List.forall_mem_cons.mpr ⟨lw_p65, List.forall_mem_cons.mpr ⟨lw_p66, List.forall_mem_cons.mpr ⟨lw_p67, List.forall_mem_cons.mpr ⟨lw_p68, List.forall_mem_cons.mpr ⟨lw_p69, List.forall_mem_cons.mpr ⟨lw_p70, List.forall_mem_cons.mpr ⟨lw_p71, List.forall_mem_cons.mpr ⟨lw_p72, List.forall_mem_cons.mpr ⟨lw_p73, List.forall_mem_cons.mpr ⟨lw_p74, List.forall_mem_cons.mpr ⟨lw_p75, List.forall_mem_cons.mpr ⟨lw_p76, List.forall_mem_cons.mpr ⟨lw_p77, List.forall_mem_cons.mpr ⟨lw_p78, List.forall_mem_cons.mpr ⟨lw_p79, fun _ h => absurd h List.not_mem_nil⟩⟩⟩⟩⟩⟩⟩⟩⟩⟩⟩⟩⟩⟩⟩⟩
theorem lw_p80 : lw_okq (⟨"InventedBirthdaysModel", "writes", "(I)V"⟩, 24) := ⟨⟨by decide +kernel, by decide +kernel⟩, List.mem_of_getElem? (i := 996) (by decide +kernel), List.mem_of_getElem? (i := 1504) (by decide +kernel), List.mem_of_getElem? (i := 1505) (by decide +kernel)⟩
theorem lw_p81 : lw_okq (⟨"InventedBirthdaysModel", "writesNumber", "(I)V"⟩, 24) := ⟨⟨by decide +kernel, by decide +kernel⟩, List.mem_of_getElem? (i := 996) (by decide +kernel), List.mem_of_getElem? (i := 1508) (by decide +kernel), List.mem_of_getElem? (i := 1509) (by decide +kernel)⟩
def lw_privs_6 : List (MethodName × Nat) := [(⟨"InventedBirthdaysModel", "writes", "(I)V"⟩, 24), (⟨"InventedBirthdaysModel", "writesNumber", "(I)V"⟩, 24)]
theorem lw_r6 : ∀ q ∈ lw_privs_6, lw_okq q := List.forall_mem_cons.mpr ⟨lw_p80, List.forall_mem_cons.mpr ⟨lw_p81, fun _ h => absurd h List.not_mem_nil⟩⟩
def lw_privs : List (MethodName × Nat) := lw_privs_1 ++ (lw_privs_2 ++ (lw_privs_3 ++ (lw_privs_4 ++ (lw_privs_5 ++ (lw_privs_6)))))
def lw_tbl : List Cond := k2_sels lw_privs ++ tables_1
theorem lw_privs_ok : ∀ q ∈ lw_privs, lw_okq q := by
  show ∀ q ∈ lw_privs_1 ++ (lw_privs_2 ++ (lw_privs_3 ++ (lw_privs_4 ++ (lw_privs_5 ++ (lw_privs_6))))), lw_okq q
  exact List.forall_mem_append.mpr ⟨lw_r1, List.forall_mem_append.mpr ⟨lw_r2, List.forall_mem_append.mpr ⟨lw_r3, List.forall_mem_append.mpr ⟨lw_r4, List.forall_mem_append.mpr ⟨lw_r5, lw_r6⟩⟩⟩⟩⟩
/-- the streams that the claim lets the run draw from -/
abbrev lw_cs : List Choice := [Jvm.Choice.named "NaN.bits"]
theorem lw_bits : nanBits ∈ lw_cs := by first | decide | exact List.mem_cons_self | simp [lw_cs, nanBits]
end
section
/-! ===== BEGIN words of one list among another's, by their places ===== -/
theorem goodIn_r {big : List Cond} (ws : List Cond) (ps : List Nat) (hp : ws = ps.filterMap (fun i => big[i]?)) (h : ws.all goodWord = true) : GoodIn big ws := by
  intro w hw
  have h1 := List.all_eq_true.mp h w hw
  rw [hp] at hw
  obtain ⟨i, -, hi⟩ := List.mem_filterMap.mp hw
  have hm : w ∈ big := by first | exact List.mem_of_getElem? hi | exact List.getElem?_mem hi
  exact ⟨hm, good_of_word h1⟩
theorem goodIn_app {big a b : List Cond} (ha : GoodIn big a) (hb : GoodIn big b) : GoodIn big (a ++ b) := fun w h => (List.mem_append.mp h).elim (ha w) (hb w)
theorem goodIn_ca {big a b : List Cond} {c : Cond} (ha : GoodIn big (c :: a)) (hb : GoodIn big b) : GoodIn big (c :: (a ++ b)) := fun w h => (List.mem_cons.mp h).elim (fun e => ha w (List.mem_cons.mpr (Or.inl e))) (fun h => (List.mem_append.mp h).elim (fun h => ha w (List.mem_cons.mpr (Or.inr h))) (hb w))
theorem goodIn_sub {big ws : List Cond} (hm : ∀ w ∈ ws, w ∈ big) (h : ws.all goodWord = true) : GoodIn big ws := fun w hw => ⟨hm w hw, good_of_word (List.all_eq_true.mp h w hw)⟩
/-! ===== END ===== -/

/-! ===== BEGIN exceptions that leave a method, and their catching by the caller (launches without stack traces) ===== -/
section VXA
/-! The laws vx_back, vx_callV, vx_callS, vx_callSW, vx_throw0, vx_throwS follow proofs of the library, with one case more: JvmDerived/Free/Laws.lean (Back.of_free), Shelf42/LK1.lean (callV, callS), Shelf/KitTraced.lean (throwNew0V, throwNewS). -/
/-- where a method has thrown q: the class by its name, the cell, what was written, the world -/
def vx_T (XC : String → State → State → Prop) (st : State) (q : Addr) (t : State) (mc ms : Nat) (free : Addr → Prop) : Prop :=
  ∃ (E : String) (ce : Cell) (L : List Loc), XC E st t ∧ t.heap[q]? = some ce ∧ ce.vm = .none ∧ st.vm.findClass E = some ce.cls ∧ st.WarmedH t.vm ∧ st.sameButNew ({ t with vm := st.vm } : State) L mc ms ∧ ∀ z ∈ L, free z.base
def vx_Q (Qc : Array Value → State → Outcome → State → Prop) (XC : String → State → State → Prop) (mc ms : Nat) (free : Addr → Prop) : Array Value → State → Outcome → State → Prop := fun a st o t =>
  (Qc a st o t ∧ ∃ L, FrameEnd st o t L mc ms ∧ ∀ q ∈ L, free q.base) ∨ ∃ q, o = .threw q ∧ vx_T XC st q t mc ms free
/-- a callee that returns or throws -/
def vx_Met (l : Launch) (y : MethodName) (ws : List Cond) (rm : Room) (Pc : Array Value → State → Prop) (Qc : Array Value → State → Outcome → State → Prop) (XC : String → State → State → Prop) (mc ms : Nat) (free : Addr → Prop) : Prop :=
  MetFree l y (headSpec ws rm) Pc (fun _ _ _ _ _ => True) (vx_Q Qc XC mc ms free)
def vx_Post (XC : String → State → State → Prop) (mc ms : Nat) (free : Addr → Prop) : Pt → Array Value → Addr → Pt → Prop := fun A a q B =>
  ∃ (g : JFrame) (mk : MethodId) (t : State) (L : List Loc) (E : String) (ce : Cell), B.U.heap = t.heap ∧ B.U.vm = t.vm ∧ XC E (A.U.calling g mk a) t ∧ t.heap[q]? = some ce ∧ ce.vm = .none ∧ A.U.vm.findClass E = some ce.cls ∧ B.locs = A.locs ++ L ∧ (∀ z ∈ L, free z.base) ∧ B.cells = A.cells + mc ∧ B.slots = A.slots + ms
def vx_Back (l : Launch) (R : Room) (p : Program) (e : Env) (below : List Frame) (s : State) (sargs : Array Value) (y : MethodName) (len W9 : Nat)
    (Pre : Pt → Array Value → Prop) (Post : Pt → Array Value → Option Value → Pt → Prop) (PostX : Pt → Array Value → Addr → Pt → Prop) : Prop :=
  ∀ (m : MethodId) (meth : Method) (c : Code) (A : Pt) (g : JFrame) (ig : Instr) (mk : MethodId) (a : Array Value),
    Stand p l e R s m sargs below meth c A.U A.locs A.cells A.slots → g.method = m → g.locals.size = c.maxLocals → decode c.code g.pc = .ok (ig, len) →
    2 * g.monitorRoom + (g.stack.map fun v => v.category).sum ≤ W9 → A.U.methodNamed? y = some mk → Pre A a →
    (∃ (v : Option Value) (B : Pt), Stand p l e R s m sargs below meth c B.U B.locs B.cells B.slots ∧ Post A a v B ∧
      Steps p.tables e below (doInvoke e (A.U.setTop g) [] mk a).1 (B.U.setTop { g with pc := g.pc + len, stack := v.toList ++ g.stack })) ∨
    (∃ (q : Addr) (B : Pt), Stand p l e R s m sargs below meth c B.U B.locs B.cells B.slots ∧ PostX A a q B ∧
      Steps p.tables e below (doInvoke e (A.U.setTop g) [] mk a).1 ((B.U.setTop g).pushFrame (.throwing q)))
section Payer
variable {l : Launch} {R : Room} {p : Program} {e : Env} {below : List Frame} {s : State} {sargs : Array Value} {y : MethodName} {len W9 : Nat}
theorem vx_back {ws : List Cond} {rm : Room} {Pc : Array Value → State → Prop} {Qc : Array Value → State → Outcome → State → Prop} {XC : String → State → State → Prop} {mc ms : Nat} {free : Addr → Prop} {bytes : ByteArray} {maxL : Nat} {ret : Option FieldType}
    (hM : vx_Met l y ws rm Pc Qc XC mc ms free) (hblind : FrameBlind Pc) (hrc : rm.cells = mc) (hrs : rm.slots = ms)
    (hframes : rm.frames + 1 ≤ R.frames) (hlocals : W9 + (maxL + 11) + rm.locals ≤ R.locals)
    (hws : ∀ w ∈ ws, ∀ a' U, s.WarmedH U.vm → w.before a' U = true) (hcode : Cond.code y bytes maxL ret ∈ ws) (hinit : ∀ a' U, s.WarmedH U.vm → (Cond.initialized y.cls).before a' U = true) :
    vx_Back l R p e below s sargs y len W9 (PreOf R mc ms Pc) (PostOf Qc mc ms free) (vx_Post XC mc ms free) := by
  intro m meth c A g ig mk a X hg hsize hdg hW hn hp
  have h1 : (headSpec ws rm).pre.before a A.U = true := atoms_intro fun w hw => hws w hw _ _ X.warmed
  have h2 : (Cond.code y bytes maxL ret).before a A.U = true := hws _ hcode _ _ X.warmed
  have h3 : (Cond.initialized y.cls).before a A.U = true := hinit _ _ X.warmed
  have h4 : A.cells + (headSpec ws rm).room.cells ≤ R.cells := by rw [show (headSpec ws rm).room.cells = mc from hrc]; exact hp.1
  have h5 : A.slots + (headSpec ws rm).room.slots ≤ R.slots := by rw [show (headSpec ws rm).room.slots = ms from hrs]; exact hp.2.1
  have hPc : Pc a (A.U.calling g mk a) := hblind _ _ _ _ hp.2.2
  obtain ⟨U, Ls, c0, s0⟩ := A
  dsimp only [Pt.U, Pt.locs, Pt.cells, Pt.slots] at h1 h2 h3 h4 h5 X hn hPc ⊢
  obtain ⟨methY, cY, hmY, hcY, -, hlY, -, -, -, -⟩ := Cond.code_spec hn h2
  obtain ⟨kY, hkY, -⟩ := className_of_methodNamed hn
  have hinitY : kY.init = .initialized := Cond.initialized_spec (findClass_of_methodNamed hn) hkY h3
  have h : At U g.method c below := by rw [hg]; exact X.here
  have hlocals9 : W9 + (maxL + 11) + (headSpec ws rm).room.locals ≤ R.locals := hlocals
  have happ : (headSpec ws rm).appliesLoose y e.platform (U.calling g mk a) = true :=
    Spec.appliesLoose_calling (g := g) h hdg hn hkY hinitY
      (X.room_calling (g := g) (R' := (headSpec ws rm).room) hsize hmY hcY hframes (by rw [hlY]; omega) h4 h5) h1
  obtain ⟨mid, hmid⟩ := h.above
  have hfr : (U.setTop g).frames = (.java g :: mid) ++ below := by rw [State.frames_setTop' g h.top, hmid]; rfl
  obtain ⟨o, s₂, hsteps, -, hend, hq⟩ := Steps.callFree hM p X.admits X.cas X.clock (acts := []) hfr happ hPc trivial
  have hq' : vx_Q Qc XC mc ms free a (U.calling g mk a) o s₂ := hq
  rw [State.frames_setTop' g h.top] at hend
  obtain ⟨g₀, hg0⟩ := Option.isSome_iff_exists.mp h.top
  obtain ⟨r, hr⟩ := State.topJava?_eq_some.mp hg0
  have hr' : (({ U with heap := s₂.heap, slotsUsed := s₂.slotsUsed } : State).setVm s₂.vm).frames = .java g₀ :: r := hr
  rcases hq' with ⟨hqc, L, hfe, hL⟩ | ⟨q, rfl, E, ce, L, hx, hce, hcv, hcl, hW₂, hsm, hL⟩
  · obtain ⟨⟨v, rfl⟩, hW₂, e2, q2, q3, q4, q5, q6⟩ := id hfe
    have e3 : s₂ = ({ (U.calling g mk a).setFrames s₂.frames with heap := s₂.heap, slotsUsed := s₂.slotsUsed } : State).setVm s₂.vm := by
      have : s₂ = ({ s₂ with vm := (U.calling g mk a).vm } : State).setVm s₂.vm := rfl
      rw [e2] at this
      exact this
    obtain ⟨c₂, i₂, len₂, hc₂, hd₂, hf₂⟩ := hend
    have hW' : U.WarmedH s₂.vm := hW₂
    have hcc : c₂ = c := by
      have h1 : s₂.code? g.method = U.code? g.method := by
        rw [State.code?_eq, State.code?_eq, hW'.alike.method?]
      exact Option.some.inj (hc₂.symm.trans (h1.trans h.code))
    subst hcc
    have hlen : len₂ = len := by rw [hdg] at hd₂; cases hd₂; rfl
    subst hlen
    have hs₂ : s₂ = (({ U with heap := s₂.heap, slotsUsed := s₂.slotsUsed } : State).setVm s₂.vm).setTop { g with pc := g.pc + len₂, stack := v.toList ++ g.stack } := by
      refine e3.trans ?_
      rw [hf₂, State.calling_eq h.top, State.setFrames_setFrames, State.setTop_of_frames _ hr', hr]
      rfl
    have hsame : U.sameButNew ({ U with heap := s₂.heap, slotsUsed := s₂.slotsUsed } : State) L mc ms := by
      refine ⟨?_, q2, q3, q4, q5, q6⟩
      obtain ⟨t, ht, -⟩ := State.frames_cons hr
      show ({ U with heap := s₂.heap, slotsUsed := s₂.slotsUsed } : State) = { U.setFrames U.frames with heap := s₂.heap, slotsUsed := s₂.slotsUsed }
      rw [State.setFrames_self ht]
    subst hg
    refine Or.inl ⟨v, ⟨(({ U with heap := s₂.heap, slotsUsed := s₂.slotsUsed } : State).setVm s₂.vm), Ls ++ L, c0 + mc, s0 + ms⟩,
      ⟨X.admits, X.cas, X.clock, X.frames, X.room, X.hears, X.method, X.code, (X.here.setHeapUsed s₂.heap s₂.slotsUsed).setVm hW'.alike, X.tail, State.WarmedH.trans X.warmed hW', X.limits, X.bytes, X.same.trans (hsame.setVm s.vm)⟩,
      ⟨g, mk, s₂, L, rfl, rfl, hqc, rfl, hL, rfl, rfl⟩, ?_⟩
    show Steps p.tables e below _ ((({ U with heap := s₂.heap, slotsUsed := s₂.slotsUsed } : State).setVm s₂.vm).setTop { g with pc := g.pc + len₂, stack := v.toList ++ g.stack })
    rw [← hs₂]
    exact hsteps
  · obtain ⟨e2, q2, q3, q4, q5, q6⟩ := id hsm
    have e3 : s₂ = ({ (U.calling g mk a).setFrames s₂.frames with heap := s₂.heap, slotsUsed := s₂.slotsUsed } : State).setVm s₂.vm := by
      have : s₂ = ({ s₂ with vm := (U.calling g mk a).vm } : State).setVm s₂.vm := rfl
      rw [e2] at this
      exact this
    have hf₂ : s₂.frames = .throwing q :: .java g :: U.frames.tail := hend
    have hW' : U.WarmedH s₂.vm := hW₂
    have hs₂ : s₂ = ((({ U with heap := s₂.heap, slotsUsed := s₂.slotsUsed } : State).setVm s₂.vm).setTop g).pushFrame (.throwing q) := by
      refine e3.trans ?_
      rw [hf₂, State.calling_eq h.top, State.setFrames_setFrames, State.pushFrame, State.frames_setTop _ hr', State.setTop_of_frames _ hr', State.setFrames_setFrames, hr]
      rfl
    have hsame : U.sameButNew ({ U with heap := s₂.heap, slotsUsed := s₂.slotsUsed } : State) L mc ms := by
      refine ⟨?_, q2, q3, q4, q5, q6⟩
      obtain ⟨t, ht, -⟩ := State.frames_cons hr
      show ({ U with heap := s₂.heap, slotsUsed := s₂.slotsUsed } : State) = { U.setFrames U.frames with heap := s₂.heap, slotsUsed := s₂.slotsUsed }
      rw [State.setFrames_self ht]
    subst hg
    refine Or.inr ⟨q, ⟨(({ U with heap := s₂.heap, slotsUsed := s₂.slotsUsed } : State).setVm s₂.vm), Ls ++ L, c0 + mc, s0 + ms⟩,
      ⟨X.admits, X.cas, X.clock, X.frames, X.room, X.hears, X.method, X.code, (X.here.setHeapUsed s₂.heap s₂.slotsUsed).setVm hW'.alike, X.tail, State.WarmedH.trans X.warmed hW', X.limits, X.bytes, X.same.trans (hsame.setVm s.vm)⟩,
      ⟨g, mk, s₂, L, E, ce, rfl, rfl, hx, hce, hcv, hcl, rfl, hL, rfl, rfl⟩, ?_⟩
    show Steps p.tables e below _ (((({ U with heap := s₂.heap, slotsUsed := s₂.slotsUsed } : State).setVm s₂.vm).setTop g).pushFrame (.throwing q))
    rw [← hs₂]
    exact hsteps
end Payer
section Calls
variable {p : Program} {l : Launch} {e : Env} {R : Room} {s : State} {m : MethodId} {args : Array Value} {below : List Frame} {meth : Method} {c : Code} {T : State} {locs : List Loc} {cells slots : Nat}
theorem vx_callV (X : Stand p l e R s m args below meth c T locs cells slots) (hexec : p.tables.exec = Jvm.exec) {own C : String} {index : Nat} {y : MethodName} {bytes : ByteArray} {maxL : Nat} {ret : Option FieldType}
    (hown : s.vm.findClass own = some m.cls) (hlink : (Cond.methodLink own index y).before args s = true) (hinst : (Cond.instanceMethod y).before args s = true) (hsel : (Cond.selects C y y).before args s = true)
    (hcode : (Cond.code y bytes maxL ret).before args s = true) (hy : y.cls ≠ "java/lang/invoke/MethodHandle" ∧ y.cls ≠ "java/lang/invoke/VarHandle")
    {W9 : Nat} {Pre : Pt → Array Value → Prop} {Post : Pt → Array Value → Option Value → Pt → Prop} {PostX : Pt → Array Value → Addr → Pt → Prop} (hK : vx_Back l R p e below s args y 3 W9 Pre Post PostX)
    {b : Addr} {cellB : Cell} (hcell : T.heap[b]? = some cellB) (hobj : cellB.vm.isStatics = false) (hcls : s.vm.findClass C = some cellB.cls)
    {g : JFrame} (hg : g.method = m) (hsize : g.locals.size = c.maxLocals) {argsL rest : List Value} (hlen : ∀ sig, parseMethodDescriptor y.desc = some sig → argsL.length = sig.parameters.length)
    (hstack : g.stack = argsL.reverse ++ .ref b :: rest) (hW : 2 * g.monitorRoom + (rest.map fun v => v.category).sum ≤ W9) (hdg : decode c.code g.pc = .ok (.invokevirtual index, 3))
    (hpre : ∀ vm₁, s.WarmedH vm₁ → Pre ⟨T.setVm vm₁, locs, cells, slots⟩ (Value.ref b :: argsL).toArray) :
    (∃ (v : Option Value) (vm₁ : Vm) (B : Pt), s.WarmedH vm₁ ∧ Stand p l e R s m args below meth c B.U B.locs B.cells B.slots ∧ Post ⟨T.setVm vm₁, locs, cells, slots⟩ (Value.ref b :: argsL).toArray v B ∧
      ∀ target, Steps p.tables e below (B.U.setTop { g with pc := g.pc + 3, stack := v.toList ++ rest }) target → Steps p.tables e below (T.setTop g) target) ∨
    (∃ (q : Addr) (vm₁ : Vm) (B : Pt), s.WarmedH vm₁ ∧ Stand p l e R s m args below meth c B.U B.locs B.cells B.slots ∧ PostX ⟨T.setVm vm₁, locs, cells, slots⟩ (Value.ref b :: argsL).toArray q B ∧
      Steps p.tables e below (T.setTop g) ((B.U.setTop { g with stack := rest }).pushFrame (.throwing q))) := by
  obtain ⟨mk, methM, hnamed, hmethM, hstM, habM⟩ := Cond.instanceMethod_spec hinst
  obtain ⟨methM', cM, hmethM', -, -, -, -, -, -, hsigM⟩ := Cond.code_spec hnamed hcode
  cases hmethM.symm.trans hmethM'
  obtain ⟨c2, r2, m2, q1, q2, q3, q4, kP, hkP, hkPi⟩ := Cond.selects_spec hsel
  cases hcls.symm.trans q1
  cases (State.methodFound?_of_named hnamed hy).symm.trans q2
  cases hnamed.symm.trans q3
  have hselP : selectMethod e.platform s.vm cellB.cls mk = .method mk := by rw [Launch.admits_selectMethod X.admits]; exact q4
  obtain ⟨vm₁, X₁, hstep₁⟩ := X.invokevirtual hexec hown hlink hnamed hmethM hstM hkP hkPi hy (a := b) (cell := cellB) hcell
    (fun z h => by rw [h] at hobj; cases hobj) hselP hmethM habM hkP hkPi (g := g) hg (argsL := argsL) (rest := rest) (hlen _ hsigM) hstack hdg
  rcases hK m meth c ⟨T.setVm vm₁, locs, cells, slots⟩ { g with stack := rest } (.invokevirtual index) mk (Value.ref b :: argsL).toArray X₁ hg hsize hdg hW (X₁.named hnamed) (hpre vm₁ X₁.warmed) with ⟨v, B, X', hpost, hsteps⟩ | ⟨q, B, X', hpost, hsteps⟩
  · exact Or.inl ⟨v, vm₁, B, X₁.warmed, X', hpost, fun target h => hstep₁ _ fun acts => by rw [doInvoke_state]; exact hsteps.trans h⟩
  · exact Or.inr ⟨q, vm₁, B, X₁.warmed, X', hpost, hstep₁ _ fun acts => by rw [doInvoke_state]; exact hsteps⟩
theorem vx_callS (X : Stand p l e R s m args below meth c T locs cells slots) (hexec : p.tables.exec = Jvm.exec) {own : String} {index : Nat} {y : MethodName} {bytes : ByteArray} {maxL : Nat} {ret : Option FieldType}
    (hown : s.vm.findClass own = some m.cls) (hlink : (Cond.methodLink own index y).before args s = true) (hstat : (Cond.static y).before args s = true) (hinit : (Cond.initialized y.cls).before args s = true)
    (hcode : (Cond.code y bytes maxL ret).before args s = true) (hy : y.cls ≠ "java/lang/invoke/MethodHandle" ∧ y.cls ≠ "java/lang/invoke/VarHandle")
    {W9 : Nat} {Pre : Pt → Array Value → Prop} {Post : Pt → Array Value → Option Value → Pt → Prop} {PostX : Pt → Array Value → Addr → Pt → Prop} (hK : vx_Back l R p e below s args y 3 W9 Pre Post PostX)
    {g : JFrame} (hg : g.method = m) (hsize : g.locals.size = c.maxLocals) {argsL rest : List Value} (hlen : ∀ sig, parseMethodDescriptor y.desc = some sig → argsL.length = sig.parameters.length)
    (hstack : g.stack = argsL.reverse ++ rest) (hW : 2 * g.monitorRoom + (rest.map fun v => v.category).sum ≤ W9) (hdg : decode c.code g.pc = .ok (.invokestatic index, 3))
    (hpre : ∀ vm₁, s.WarmedH vm₁ → Pre ⟨T.setVm vm₁, locs, cells, slots⟩ argsL.toArray) :
    (∃ (v : Option Value) (vm₁ : Vm) (B : Pt), s.WarmedH vm₁ ∧ Stand p l e R s m args below meth c B.U B.locs B.cells B.slots ∧ Post ⟨T.setVm vm₁, locs, cells, slots⟩ argsL.toArray v B ∧
      ∀ target, Steps p.tables e below (B.U.setTop { g with pc := g.pc + 3, stack := v.toList ++ rest }) target → Steps p.tables e below (T.setTop g) target) ∨
    (∃ (q : Addr) (vm₁ : Vm) (B : Pt), s.WarmedH vm₁ ∧ Stand p l e R s m args below meth c B.U B.locs B.cells B.slots ∧ PostX ⟨T.setVm vm₁, locs, cells, slots⟩ argsL.toArray q B ∧
      Steps p.tables e below (T.setTop g) ((B.U.setTop { g with stack := rest }).pushFrame (.throwing q))) := by
  obtain ⟨mk, hnamed⟩ := Cond.code_named hcode
  obtain ⟨methM, cM, hmethM, -, -, -, -, -, -, hsigM⟩ := Cond.code_spec hnamed hcode
  have hstatic : methM.isStatic = true := Cond.static_spec hnamed hmethM hstat
  obtain ⟨kP, hkP, -⟩ := className_of_methodNamed hnamed
  have hinitP : kP.init = .initialized := Cond.initialized_spec (findClass_of_methodNamed hnamed) hkP hinit
  obtain ⟨vm₁, X₁, hstep₁⟩ := X.invokestatic hexec hown hlink hnamed hmethM hstatic hkP hinitP hy (g := g) hg (argsL := argsL) (rest := rest) (hlen _ hsigM) hstack hdg
  rcases hK m meth c ⟨T.setVm vm₁, locs, cells, slots⟩ { g with stack := rest } (.invokestatic index) mk argsL.toArray X₁ hg hsize hdg hW (X₁.named hnamed) (hpre vm₁ X₁.warmed) with ⟨v, B, X', hpost, hsteps⟩ | ⟨q, B, X', hpost, hsteps⟩
  · exact Or.inl ⟨v, vm₁, B, X₁.warmed, X', hpost, fun target h => hstep₁ _ fun acts => by rw [doInvoke_state]; exact hsteps.trans h⟩
  · exact Or.inr ⟨q, vm₁, B, X₁.warmed, X', hpost, hstep₁ _ fun acts => by rw [doInvoke_state]; exact hsteps⟩
end Calls
theorem vx_cls {s : State} {T : State} {vm₁ : Vm} {E : String} {k : ClassId} (hW : s.WarmedH vm₁) (h : (T.setVm vm₁).vm.findClass E = some k) : s.vm.findClass E = some k := by
  have h1 : vm₁.findClass E = some k := h
  rw [hW.alike.findClass] at h1
  exact h1
/-- the method's frame g, with q thrown over it -/
def vx_W (p : Program) (l : Launch) (e : Env) (R : Room) (s : State) (m : MethodId) (args : Array Value) (below : List Frame) (meth : Method) (c : Code) (H : Heap) (locs : List Loc) (cells slots : Nat) (Q : State → Prop) (g : JFrame) (q : Addr) : Prop :=
  ∀ T : State, T.heap = H → Stand p l e R s m args below meth c T locs cells slots → ∃ t, Steps p.tables e below ((T.setTop g).pushFrame (.throwing q)) t ∧ Q t
def vx_Run (p : Program) (l : Launch) (e : Env) (R : Room) (s : State) (m : MethodId) (args : Array Value) (below : List Frame) (meth : Method) (c : Code) (H : Heap) (locs : List Loc) (cells slots mc ms : Nat) (g : JFrame) (rest : List Value) (Qa : State → Outcome → State → Prop) (XC : String → State → State → Prop) (free : Addr → Prop) : Prop :=
  ∀ T : State, T.heap = H → Stand p l e R s m args below meth c T locs cells slots →
    (∃ (v : Option Value) (st₀ t T' : State) (L : List Loc), st₀.heap = H ∧ Stand p l e R s m args below meth c T' (locs ++ L) (cells + mc) (slots + ms) ∧ (∀ q ∈ L, free q.base) ∧ T'.heap = t.heap ∧ T'.vm = t.vm ∧ Qa st₀ (.returned v) t ∧
      Goes p e below T g T' { g with pc := g.pc + 3, stack := v.toList ++ rest }) ∨
    (∃ (q : Addr) (st₀ t T' : State) (L : List Loc) (E : String) (ce : Cell), st₀.heap = H ∧ Stand p l e R s m args below meth c T' (locs ++ L) (cells + mc) (slots + ms) ∧ (∀ z ∈ L, free z.base) ∧ T'.heap = t.heap ∧ T'.vm = t.vm ∧ XC E st₀ t ∧ t.heap[q]? = some ce ∧ ce.vm = .none ∧ s.vm.findClass E = some ce.cls ∧
      Steps p.tables e below (T.setTop g) ((T'.setTop { g with stack := rest }).pushFrame (.throwing q)))
def vx_X {S : Type} (px : S → Prop) (B : String → S → State → Prop) (A : Nat → Prop) : String → State → State → Prop := fun E st t => ∃ u : S, px u ∧ B E u t ∧ va_F A st t
section Runs
variable {p : Program} {l : Launch} {e : Env} {R : Room} {s : State} {m : MethodId} {args : Array Value} {below : List Frame} {meth : Method} {c : Code} {H : Heap} {locs : List Loc} {cells slots : Nat}
variable {y : MethodName} {bytes cc : ByteArray} {maxL nL mc ms n index : Nat} {ret : Option FieldType} {ws : List Cond} {rm : Room} {Pc : Array Value → State → Prop} {Qc : Array Value → State → Outcome → State → Prop} {XC : String → State → State → Prop} {free : Addr → Prop} {Ts : List Cond} {own C : String} {b : Addr} {As rest : List Value} {g : JFrame}
theorem vx_callBack (cb : CallB R s args own index y bytes maxL ret ws rm mc ms n) (hM : vx_Met l y ws rm Pc Qc XC mc ms free) (hbl : FrameBlind Pc) : vx_Back l R p e below s args y 3 8 (PreOf R mc ms Pc) (PostOf Qc mc ms free) (vx_Post XC mc ms free) := by
  obtain ⟨hrc, hrs, hfr, hlo, hws, hcw, -, hini, -⟩ := cb
  exact vx_back (bytes := bytes) (maxL := maxL) (ret := ret) hM hbl hrc hrs hfr hlo hws hcw (fun a' U hW => word_at hW (Or.inl (by first | rfl | simp [Cond.onTables, Cond.keeps, Cond.steady])) hini)
theorem vx_runV (S : CallFix p m c cc nL s args Ts own) (hM : vx_Met l y ws rm Pc Qc XC mc ms free) (cw : CallW R s args own C index y bytes maxL ret ws rm mc ms n) (hp : PreV s H C b Pc As)
    (hg : g.method = m) (hn : As.length = n) (hsize : g.locals.size = nL) (hstack : g.stack = As.reverse ++ .ref b :: rest) (hW : 2 * g.monitorRoom + (rest.map fun v => v.category).sum ≤ 8) (hdg : decode cc g.pc = .ok (.invokevirtual index, 3)) (hf : cells + mc ≤ R.cells ∧ slots + ms ≤ R.slots) :
    vx_Run p l e R s m args below meth c H locs cells slots mc ms g rest (Qc (Value.ref b :: As).toArray) XC free := by
  have hK : vx_Back l R p e below s args y 3 8 (PreOf R mc ms Pc) (PostOf Qc mc ms free) (vx_Post XC mc ms free) := vx_callBack cw.1 hM hp.1
  obtain ⟨⟨-, -, -, -, -, -, hcode, -, hy, hlen, hl⟩, hin, hse⟩ := cw
  obtain ⟨hx, hb, hml, ho, -⟩ := S
  obtain ⟨-, ⟨cellB, hcB, hoB, hclB⟩, hPc⟩ := hp
  intro T hT X
  rcases vx_callV X hx (C := C) (bytes := bytes) (maxL := maxL) (ret := ret) ho hl hin hse hcode hy hK (by rw [hT]; exact hcB) hoB hclB hg (hsize.trans hml.symm) (argsL := As) (rest := rest) (fun sig h => hn.trans (hlen sig h)) hstack hW (by rw [hb]; exact hdg)
    (fun vm₁ hW₁ => ⟨hf.1, hf.2, hPc (T.setVm vm₁) hT hW₁⟩) with ⟨v, vm₁, ⟨U', l2, c2, s2⟩, hW₁, X', ⟨g', mk, t, L, e1, e2, hq, h1, hL, h2, h3⟩, st⟩ | ⟨q, vm₁, ⟨U', l2, c2, s2⟩, hW₁, X', ⟨g', mk, t, L, E, ce, e1, e2, hq, hce, hcv, hcl, h1, hL, h2, h3⟩, st⟩
  · dsimp only [Pt.U, Pt.locs, Pt.cells, Pt.slots] at X' e1 e2 h1 h2 h3 st
    subst h1; subst h2; subst h3
    exact Or.inl ⟨v, (T.setVm vm₁).calling g' mk (Value.ref b :: As).toArray, t, U', L, hT, X', hL, e1, e2, hq, st⟩
  · dsimp only [Pt.U, Pt.locs, Pt.cells, Pt.slots] at X' e1 e2 h1 h2 h3 st hcl
    subst h1; subst h2; subst h3
    exact Or.inr ⟨q, (T.setVm vm₁).calling g' mk (Value.ref b :: As).toArray, t, U', L, E, ce, hT, X', hL, e1, e2, hq, hce, hcv, vx_cls hW₁ hcl, st⟩
theorem vx_runS (S : CallFix p m c cc nL s args Ts own) (hM : vx_Met l y ws rm Pc Qc XC mc ms free) (cw : CallB R s args own index y bytes maxL ret ws rm mc ms n ∧ (Cond.static y).before args s = true) (hp : PreS s H Pc As)
    (hg : g.method = m) (hn : As.length = n) (hsize : g.locals.size = nL) (hstack : g.stack = As.reverse ++ rest) (hW : 2 * g.monitorRoom + (rest.map fun v => v.category).sum ≤ 8) (hdg : decode cc g.pc = .ok (.invokestatic index, 3)) (hf : cells + mc ≤ R.cells ∧ slots + ms ≤ R.slots) :
    vx_Run p l e R s m args below meth c H locs cells slots mc ms g rest (Qc As.toArray) XC free := by
  have hK : vx_Back l R p e below s args y 3 8 (PreOf R mc ms Pc) (PostOf Qc mc ms free) (vx_Post XC mc ms free) := vx_callBack cw.1 hM hp.1
  obtain ⟨⟨-, -, -, -, -, -, hcode, hini, hy, hlen, hl⟩, hstt⟩ := cw
  obtain ⟨hx, hb, hml, ho, -⟩ := S
  intro T hT X
  rcases vx_callS X hx (bytes := bytes) (maxL := maxL) (ret := ret) ho hl hstt hini hcode hy hK hg (hsize.trans hml.symm) (argsL := As) (rest := rest) (fun sig h => hn.trans (hlen sig h)) hstack hW (by rw [hb]; exact hdg)
    (fun vm₁ hW₁ => ⟨hf.1, hf.2, hp.2 (T.setVm vm₁) hT hW₁⟩) with ⟨v, vm₁, ⟨U', l2, c2, s2⟩, hW₁, X', ⟨g', mk, t, L, e1, e2, hq, h1, hL, h2, h3⟩, st⟩ | ⟨q, vm₁, ⟨U', l2, c2, s2⟩, hW₁, X', ⟨g', mk, t, L, E, ce, e1, e2, hq, hce, hcv, hcl, h1, hL, h2, h3⟩, st⟩
  · dsimp only [Pt.U, Pt.locs, Pt.cells, Pt.slots] at X' e1 e2 h1 h2 h3 st
    subst h1; subst h2; subst h3
    exact Or.inl ⟨v, (T.setVm vm₁).calling g' mk As.toArray, t, U', L, hT, X', hL, e1, e2, hq, st⟩
  · dsimp only [Pt.U, Pt.locs, Pt.cells, Pt.slots] at X' e1 e2 h1 h2 h3 st hcl
    subst h1; subst h2; subst h3
    exact Or.inr ⟨q, (T.setVm vm₁).calling g' mk As.toArray, t, U', L, E, ce, hT, X', hL, e1, e2, hq, hce, hcv, vx_cls hW₁ hcl, st⟩
end Runs
section Rows
variable {p : Program} {l : Launch} {e : Env} {R : Room} {s : State} {m : MethodId} {args : Array Value} {below : List Frame} {meth : Method} {c : Code} {H : Heap} {locs : List Loc} {cells slots : Nat} {Q : State → Prop}
variable {mc ms : Nat} {free : Addr → Prop} {A0 A1 : Nat → Prop} {H0 : Heap} {a : Array Value} {pc : Nat} {ls : Array Slot} {st0 rest : List Value}
theorem vx_keep {st₀ t T' : State} {L : List Loc} (h0 : st₀.heap = H) (e1 : T'.heap = t.heap) (hS : va_S A0 H0 H locs) (hA : ∀ q, q < H.size → A1 q → A0 q) (hf : ∀ q, free q → A0 q) (hL : ∀ q ∈ L, free q.base) (hF : va_F A1 st₀ t) :
    H.size ≤ T'.heap.size ∧ (∀ q : Nat, q < H.size → ¬ A1 q → T'.heap[q]? = H[q]?) ∧ va_S A0 H0 T'.heap (locs ++ L) := by
  obtain ⟨hz, hk⟩ := hF
  rw [h0] at hz hk
  exact ⟨by rw [e1]; exact hz, fun q h1 h2 => by rw [e1]; exact hk q h1 h2,
    ⟨Nat.le_trans hS.1 (by rw [e1]; exact hz), fun q h1 h2 => by rw [e1, hk q (Nat.lt_of_lt_of_le h1 hS.1) (fun z => h2 (hA q (Nat.lt_of_lt_of_le h1 hS.1) z))]; exact hS.2.1 q h1 h2, fun q hq => by
      rcases List.mem_append.mp hq with h | h
      · exact hS.2.2 q h
      · exact hf _ (hL q h)⟩⟩
theorem vx_calli {S SX : Type} {post : Int32 → S → Prop} {px : SX → Prop} {B : S → State → Prop} {BX : String → SX → State → Prop} {AX : Nat → Prop} (hr : vx_Run p l e R s m args below meth c H locs cells slots mc ms (F0 m pc ls st0) rest (va_Qi post B A1 a) (vx_X px BX AX) free) (hS : va_S A0 H0 H locs) (hA : ∀ q, q < H.size → A1 q → A0 q) (hf : ∀ q, free q → A0 q) (hAX : ∀ q, q < H.size → AX q → A0 q)
    (kx : ∀ (E : String) (ce : Cell) (q9 : Addr) (u : SX) (t : State) (H1 : Heap) (locs1 : List Loc), t.heap = H1 → s.vm.Alike t.vm → px u → BX E u t → H.size ≤ H1.size → (∀ q : Nat, q < H.size → ¬ AX q → H1[q]? = H[q]?) → va_S A0 H0 H1 locs1 → H1[q9]? = some ce → ce.vm = .none → s.vm.findClass E = some ce.cls → vx_W p l e R s m args below meth c H1 locs1 (cells + mc) (slots + ms) Q (F0 m pc ls rest) q9)
    (kk : ∀ (r : Int32) (u : S) (t : State) (H1 : Heap) (locs1 : List Loc), t.heap = H1 → s.vm.Alike t.vm → post r u → B u t → H.size ≤ H1.size → (∀ q : Nat, q < H.size → ¬ A1 q → H1[q]? = H[q]?) → va_S A0 H0 H1 locs1 → W p l e R s m args below meth c H1 locs1 (cells + mc) (slots + ms) Q (F0 m (pc + 3) ls (.int r :: rest))) : W p l e R s m args below meth c H locs cells slots Q (F0 m pc ls st0) := by
  intro T hT X
  rcases hr T hT X with ⟨v, st₀, t, T', L, h0, X', hL, e1, e2, ⟨⟨r, u, hv, hp, hb⟩, hF⟩, st⟩ | ⟨q, st₀, t, T', L, E, ce, h0, X', hL, e1, e2, ⟨u, hp, hb, hF⟩, hce, hcv, hcl, st⟩
  · cases hv
    obtain ⟨k1, k2, k3⟩ := vx_keep h0 e1 hS hA hf hL hF
    obtain ⟨t2, a1, b1⟩ := kk r u t T'.heap (locs ++ L) e1.symm (by rw [← e2]; exact X'.warmed.alike) hp hb k1 k2 k3 T' rfl X'
    exact ⟨t2, st t2 a1, b1⟩
  · obtain ⟨k1, k2, k3⟩ := vx_keep h0 e1 hS hAX hf hL hF
    obtain ⟨t2, a1, b1⟩ := kx E ce q u t T'.heap (locs ++ L) e1.symm (by rw [← e2]; exact X'.warmed.alike) hp hb k1 k2 k3 (by rw [e1]; exact hce) hcv hcl T' rfl X'
    exact ⟨t2, st.trans a1, b1⟩
theorem vx_calll {S SX : Type} {post : Int64 → S → Prop} {px : SX → Prop} {B : S → State → Prop} {BX : String → SX → State → Prop} {AX : Nat → Prop} (hr : vx_Run p l e R s m args below meth c H locs cells slots mc ms (F0 m pc ls st0) rest (va_Ql post B A1 a) (vx_X px BX AX) free) (hS : va_S A0 H0 H locs) (hA : ∀ q, q < H.size → A1 q → A0 q) (hf : ∀ q, free q → A0 q) (hAX : ∀ q, q < H.size → AX q → A0 q)
    (kx : ∀ (E : String) (ce : Cell) (q9 : Addr) (u : SX) (t : State) (H1 : Heap) (locs1 : List Loc), t.heap = H1 → s.vm.Alike t.vm → px u → BX E u t → H.size ≤ H1.size → (∀ q : Nat, q < H.size → ¬ AX q → H1[q]? = H[q]?) → va_S A0 H0 H1 locs1 → H1[q9]? = some ce → ce.vm = .none → s.vm.findClass E = some ce.cls → vx_W p l e R s m args below meth c H1 locs1 (cells + mc) (slots + ms) Q (F0 m pc ls rest) q9)
    (kk : ∀ (r : Int64) (u : S) (t : State) (H1 : Heap) (locs1 : List Loc), t.heap = H1 → s.vm.Alike t.vm → post r u → B u t → H.size ≤ H1.size → (∀ q : Nat, q < H.size → ¬ A1 q → H1[q]? = H[q]?) → va_S A0 H0 H1 locs1 → W p l e R s m args below meth c H1 locs1 (cells + mc) (slots + ms) Q (F0 m (pc + 3) ls (.long r :: rest))) : W p l e R s m args below meth c H locs cells slots Q (F0 m pc ls st0) := by
  intro T hT X
  rcases hr T hT X with ⟨v, st₀, t, T', L, h0, X', hL, e1, e2, ⟨⟨r, u, hv, hp, hb⟩, hF⟩, st⟩ | ⟨q, st₀, t, T', L, E, ce, h0, X', hL, e1, e2, ⟨u, hp, hb, hF⟩, hce, hcv, hcl, st⟩
  · cases hv
    obtain ⟨k1, k2, k3⟩ := vx_keep h0 e1 hS hA hf hL hF
    obtain ⟨t2, a1, b1⟩ := kk r u t T'.heap (locs ++ L) e1.symm (by rw [← e2]; exact X'.warmed.alike) hp hb k1 k2 k3 T' rfl X'
    exact ⟨t2, st t2 a1, b1⟩
  · obtain ⟨k1, k2, k3⟩ := vx_keep h0 e1 hS hAX hf hL hF
    obtain ⟨t2, a1, b1⟩ := kx E ce q u t T'.heap (locs ++ L) e1.symm (by rw [← e2]; exact X'.warmed.alike) hp hb k1 k2 k3 (by rw [e1]; exact hce) hcv hcl T' rfl X'
    exact ⟨t2, st.trans a1, b1⟩
theorem vx_callf {S SX : Type} {post : UInt32 → S → Prop} {px : SX → Prop} {B : S → State → Prop} {BX : String → SX → State → Prop} {AX : Nat → Prop} (hr : vx_Run p l e R s m args below meth c H locs cells slots mc ms (F0 m pc ls st0) rest (va_Qf post B A1 a) (vx_X px BX AX) free) (hS : va_S A0 H0 H locs) (hA : ∀ q, q < H.size → A1 q → A0 q) (hf : ∀ q, free q → A0 q) (hAX : ∀ q, q < H.size → AX q → A0 q)
    (kx : ∀ (E : String) (ce : Cell) (q9 : Addr) (u : SX) (t : State) (H1 : Heap) (locs1 : List Loc), t.heap = H1 → s.vm.Alike t.vm → px u → BX E u t → H.size ≤ H1.size → (∀ q : Nat, q < H.size → ¬ AX q → H1[q]? = H[q]?) → va_S A0 H0 H1 locs1 → H1[q9]? = some ce → ce.vm = .none → s.vm.findClass E = some ce.cls → vx_W p l e R s m args below meth c H1 locs1 (cells + mc) (slots + ms) Q (F0 m pc ls rest) q9)
    (kk : ∀ (r : UInt32) (u : S) (t : State) (H1 : Heap) (locs1 : List Loc), t.heap = H1 → s.vm.Alike t.vm → post r u → B u t → H.size ≤ H1.size → (∀ q : Nat, q < H.size → ¬ A1 q → H1[q]? = H[q]?) → va_S A0 H0 H1 locs1 → W p l e R s m args below meth c H1 locs1 (cells + mc) (slots + ms) Q (F0 m (pc + 3) ls (.float r :: rest))) : W p l e R s m args below meth c H locs cells slots Q (F0 m pc ls st0) := by
  intro T hT X
  rcases hr T hT X with ⟨v, st₀, t, T', L, h0, X', hL, e1, e2, ⟨⟨r, u, hv, hp, hb⟩, hF⟩, st⟩ | ⟨q, st₀, t, T', L, E, ce, h0, X', hL, e1, e2, ⟨u, hp, hb, hF⟩, hce, hcv, hcl, st⟩
  · cases hv
    obtain ⟨k1, k2, k3⟩ := vx_keep h0 e1 hS hA hf hL hF
    obtain ⟨t2, a1, b1⟩ := kk r u t T'.heap (locs ++ L) e1.symm (by rw [← e2]; exact X'.warmed.alike) hp hb k1 k2 k3 T' rfl X'
    exact ⟨t2, st t2 a1, b1⟩
  · obtain ⟨k1, k2, k3⟩ := vx_keep h0 e1 hS hAX hf hL hF
    obtain ⟨t2, a1, b1⟩ := kx E ce q u t T'.heap (locs ++ L) e1.symm (by rw [← e2]; exact X'.warmed.alike) hp hb k1 k2 k3 (by rw [e1]; exact hce) hcv hcl T' rfl X'
    exact ⟨t2, st.trans a1, b1⟩
theorem vx_calld {S SX : Type} {post : UInt64 → S → Prop} {px : SX → Prop} {B : S → State → Prop} {BX : String → SX → State → Prop} {AX : Nat → Prop} (hr : vx_Run p l e R s m args below meth c H locs cells slots mc ms (F0 m pc ls st0) rest (va_Qd post B A1 a) (vx_X px BX AX) free) (hS : va_S A0 H0 H locs) (hA : ∀ q, q < H.size → A1 q → A0 q) (hf : ∀ q, free q → A0 q) (hAX : ∀ q, q < H.size → AX q → A0 q)
    (kx : ∀ (E : String) (ce : Cell) (q9 : Addr) (u : SX) (t : State) (H1 : Heap) (locs1 : List Loc), t.heap = H1 → s.vm.Alike t.vm → px u → BX E u t → H.size ≤ H1.size → (∀ q : Nat, q < H.size → ¬ AX q → H1[q]? = H[q]?) → va_S A0 H0 H1 locs1 → H1[q9]? = some ce → ce.vm = .none → s.vm.findClass E = some ce.cls → vx_W p l e R s m args below meth c H1 locs1 (cells + mc) (slots + ms) Q (F0 m pc ls rest) q9)
    (kk : ∀ (r : UInt64) (u : S) (t : State) (H1 : Heap) (locs1 : List Loc), t.heap = H1 → s.vm.Alike t.vm → post r u → B u t → H.size ≤ H1.size → (∀ q : Nat, q < H.size → ¬ A1 q → H1[q]? = H[q]?) → va_S A0 H0 H1 locs1 → W p l e R s m args below meth c H1 locs1 (cells + mc) (slots + ms) Q (F0 m (pc + 3) ls (.double r :: rest))) : W p l e R s m args below meth c H locs cells slots Q (F0 m pc ls st0) := by
  intro T hT X
  rcases hr T hT X with ⟨v, st₀, t, T', L, h0, X', hL, e1, e2, ⟨⟨r, u, hv, hp, hb⟩, hF⟩, st⟩ | ⟨q, st₀, t, T', L, E, ce, h0, X', hL, e1, e2, ⟨u, hp, hb, hF⟩, hce, hcv, hcl, st⟩
  · cases hv
    obtain ⟨k1, k2, k3⟩ := vx_keep h0 e1 hS hA hf hL hF
    obtain ⟨t2, a1, b1⟩ := kk r u t T'.heap (locs ++ L) e1.symm (by rw [← e2]; exact X'.warmed.alike) hp hb k1 k2 k3 T' rfl X'
    exact ⟨t2, st t2 a1, b1⟩
  · obtain ⟨k1, k2, k3⟩ := vx_keep h0 e1 hS hAX hf hL hF
    obtain ⟨t2, a1, b1⟩ := kx E ce q u t T'.heap (locs ++ L) e1.symm (by rw [← e2]; exact X'.warmed.alike) hp hb k1 k2 k3 (by rw [e1]; exact hce) hcv hcl T' rfl X'
    exact ⟨t2, st.trans a1, b1⟩
theorem vx_callv {S SX : Type} {post : S → Prop} {px : SX → Prop} {B : S → State → Prop} {BX : String → SX → State → Prop} {AX : Nat → Prop} (hr : vx_Run p l e R s m args below meth c H locs cells slots mc ms (F0 m pc ls st0) rest (va_Qv post B A1 a) (vx_X px BX AX) free) (hS : va_S A0 H0 H locs) (hA : ∀ q, q < H.size → A1 q → A0 q) (hf : ∀ q, free q → A0 q) (hAX : ∀ q, q < H.size → AX q → A0 q)
    (kx : ∀ (E : String) (ce : Cell) (q9 : Addr) (u : SX) (t : State) (H1 : Heap) (locs1 : List Loc), t.heap = H1 → s.vm.Alike t.vm → px u → BX E u t → H.size ≤ H1.size → (∀ q : Nat, q < H.size → ¬ AX q → H1[q]? = H[q]?) → va_S A0 H0 H1 locs1 → H1[q9]? = some ce → ce.vm = .none → s.vm.findClass E = some ce.cls → vx_W p l e R s m args below meth c H1 locs1 (cells + mc) (slots + ms) Q (F0 m pc ls rest) q9)
    (kk : ∀ (u : S) (t : State) (H1 : Heap) (locs1 : List Loc), t.heap = H1 → s.vm.Alike t.vm → post u → B u t → H.size ≤ H1.size → (∀ q : Nat, q < H.size → ¬ A1 q → H1[q]? = H[q]?) → va_S A0 H0 H1 locs1 → W p l e R s m args below meth c H1 locs1 (cells + mc) (slots + ms) Q (F0 m (pc + 3) ls (rest))) : W p l e R s m args below meth c H locs cells slots Q (F0 m pc ls st0) := by
  intro T hT X
  rcases hr T hT X with ⟨v, st₀, t, T', L, h0, X', hL, e1, e2, ⟨⟨u, hv, hp, hb⟩, hF⟩, st⟩ | ⟨q, st₀, t, T', L, E, ce, h0, X', hL, e1, e2, ⟨u, hp, hb, hF⟩, hce, hcv, hcl, st⟩
  · cases hv
    obtain ⟨k1, k2, k3⟩ := vx_keep h0 e1 hS hA hf hL hF
    obtain ⟨t2, a1, b1⟩ := kk u t T'.heap (locs ++ L) e1.symm (by rw [← e2]; exact X'.warmed.alike) hp hb k1 k2 k3 T' rfl X'
    exact ⟨t2, st t2 a1, b1⟩
  · obtain ⟨k1, k2, k3⟩ := vx_keep h0 e1 hS hAX hf hL hF
    obtain ⟨t2, a1, b1⟩ := kx E ce q u t T'.heap (locs ++ L) e1.symm (by rw [← e2]; exact X'.warmed.alike) hp hb k1 k2 k3 (by rw [e1]; exact hce) hcv hcl T' rfl X'
    exact ⟨t2, st.trans a1, b1⟩
/-- caught by the row x of this method's table; the rows ahead don't take it -/
theorem vx_catch {own name : String} {E : String} {ce : Cell} {q : Addr} (hown : s.vm.findClass own = some m.cls) (pre : List ExceptionTableEntry) (x : ExceptionTableEntry) (suf : List ExceptionTableEntry) (hsplit : c.exceptionTable.toList = pre ++ x :: suf)
    (hpass : ∀ z ∈ pre, covers z pc = false ∨ (z.catchType ≠ 0 ∧ ∃ nm : String, (Cond.classLink own z.catchType nm).before args s = true ∧ va_Nc E nm s)) (hx : covers x pc = true) (h0 : x.catchType ≠ 0)
    (hlink : (Cond.classLink own x.catchType name).before args s = true) (hcast : (Cond.castable E name).before args s = true) (hcell : H[q]? = some ce) (hv : ce.vm = .none) (hcl : s.vm.findClass E = some ce.cls)
    (kk : W p l e R s m args below meth c H locs cells slots Q (F0 m x.handlerPc ls [.ref q])) : vx_W p l e R s m args below meth c H locs cells slots Q (F0 m pc ls rest) q := by
  intro T hT X
  have hpl : e.platform.magicAccessors = ({} : Platform).magicAccessors := by rw [X.admits.platform]
  obtain ⟨c3, c4, hc3, hc4, hasg⟩ := Cond.castable_spec hcast
  cases Option.some.inj (hc3.symm.trans hcl)
  obtain ⟨c5, hc5, hcl5⟩ := Cond.classLink_spec hown hlink e.platform hpl
  cases Option.some.inj (hc4.symm.trans hc5)
  obtain ⟨vm', X', st⟩ := X.thenCaughtThrough q (g := F0 m pc ls rest) rfl (Steps.refl _) (by rw [hT]; exact hcell) (by rw [hv]; rfl) (by obtain ⟨k9, h9, -⟩ := Vm.findClass_spec hcl; exact ⟨k9, h9⟩) pre x suf hsplit
    (fun z hz => by
      rcases hpass z hz with h | ⟨hz0, nm, hl1, hn1⟩
      · exact Or.inl h
      · obtain ⟨c6, hc6, hcl6⟩ := Cond.classLink_spec hown hl1 e.platform hpl
        obtain ⟨a8, b8, h1, h2, h3⟩ := hn1
        cases Option.some.inj (h1.symm.trans hcl)
        cases Option.some.inj (h2.symm.trans hc6)
        exact Or.inr ⟨hz0, _, hcl6, h3⟩) hx (Or.inr ⟨h0, c4, hcl5, hasg⟩)
  obtain ⟨t, a1, b1⟩ := kk (T.setVm vm') hT X'
  exact ⟨t, st.trans a1, b1⟩
end Rows
section Ends
variable {p : Program} {l : Launch} {e : Env} {R : Room} {s : State} {m : MethodId} {args : Array Value} {below : List Frame} {meth : Method} {c : Code} {H : Heap} {locs : List Loc} {cells slots : Nat} {Q : State → Prop}
variable {mc ms : Nat} {free : Addr → Prop} {A0 A1 : Nat → Prop} {H0 : Heap} {a : Array Value} {ls : Array Slot} {st0 rest : List Value}
variable {Qc : Array Value → State → Outcome → State → Prop} {XC : String → State → State → Prop}
/-- what a body that may throw owes at its end -/
def vx_MQ (below : List Frame) (Qc : Array Value → State → Outcome → State → Prop) (XC : String → State → State → Prop) (a : Array Value) (s : State) (mc ms : Nat) (free : Addr → Prop) : State → Prop := fun t =>
  ∃ o, t.status = .running ∧ Ended t below o ∧ vx_Q Qc XC mc ms free a s o t
theorem vx_ret {g : JFrame} {mc ms : Nat} (k : W p l e R s m args below meth c H locs cells slots (MQ below Qc args s mc ms free) g) : W p l e R s m args below meth c H locs cells slots (vx_MQ below Qc XC args s mc ms free) g := by
  intro T hT X
  obtain ⟨t, a1, o, b1, b2, b3, b4⟩ := k T hT X
  exact ⟨t, a1, o, b1, b2, Or.inl ⟨b3, b4⟩⟩
/-- not caught here: it goes on to the caller -/
theorem vx_widen {g : JFrame} {q : Addr} {k n : Nat} (h1 : cells ≤ k) (h2 : slots ≤ n) (kk : vx_W p l e R s m args below meth c H locs k n Q g q) : vx_W p l e R s m args below meth c H locs cells slots Q g q := fun T hT X => kk T hT (stand_widen X h1 h2)
theorem vx_out {pc : Nat} {E : String} {ce : Cell} {q : Addr} {mc ms : Nat} (hout : ∀ x ∈ c.exceptionTable.toList, covers x pc = false) (hlocks : meth.locks = false) (hcell : H[q]? = some ce) (hv : ce.vm = .none) (hcl : s.vm.findClass E = some ce.cls)
    (hx : ∀ t : State, t.heap = H → s.vm.Alike t.vm → XC E s t) (hf : ∀ z ∈ locs, free z.base) (hc : cells ≤ mc) (hs : slots ≤ ms) :
    vx_W p l e R s m args below meth c H locs cells slots (vx_MQ below Qc XC args s mc ms free) (F0 m pc ls rest) q := by
  intro T hT X
  obtain ⟨st1, hrun, hend, hW, hsm⟩ := X.leaveThrown q (g := F0 m pc ls rest) rfl rfl rfl hout hlocks
  have hcell9 : (T.setFrames (.throwing q :: below)).heap[q]? = some ce := by
    show T.heap[q]? = some ce
    rw [hT]; exact hcell
  exact ⟨_, st1, .threw q, hrun, hend, Or.inr ⟨q, rfl, E, ce, locs, hx _ hT hW.alike, hcell9, hv, hcl, hW, hsm.mono hc hs, hf⟩⟩
theorem vx_frame {U : State} {k n : Nat} (h : s.sameButNew ({ U with vm := s.vm } : State) locs k n) : s.heap.size ≤ U.heap.size ∧ ∀ q : Nat, q < s.heap.size → (∀ z ∈ locs, z.base ≠ q) → U.heap[q]? = s.heap[q]? := by
  obtain ⟨-, h2, -, -, -, h6⟩ := h
  refine ⟨h2, fun q hq hz => ?_⟩
  obtain ⟨c9, e1, e2, e3, e4⟩ := h6 q _ (Array.getElem?_eq_getElem hq)
  have hs : c9.slots = (s.heap[q]).slots := Array.ext_getElem? fun i => e4 i fun hm => hz _ hm rfl
  have h9 : c9 = s.heap[q] := by
    rw [hs] at e2
    exact e2
  have e5 : U.heap[q]? = some c9 := e1
  rw [e5, h9, Array.getElem?_eq_getElem hq]
/-- the words of a throw but the four that speak of the heap -/
def vx_no (w : Cond) : Bool := decide (w ≠ .isRef (.static Bundle.tN "UNASSIGNED_STACK" Bundle.steD)) && decide (w ≠ .isRef (.static Bundle.tN "SUPPRESSED_SENTINEL" Bundle.listD)) && decide (w ≠ .laysStatic Bundle.tN "UNASSIGNED_STACK" Bundle.steD) && decide (w ≠ .laysStatic Bundle.tN "SUPPRESSED_SENTINEL" Bundle.listD)
def vx_at0 (own : String) (ic : Nat) (X : String) (names : List String) : List Cond := (Bundle.ownAtoms0 own ic X names).filter vx_no
def vx_atS (own : String) (ic : Nat) (X : String) (names : List String) : List Cond := (Bundle.ownAtoms own ic X names).filter vx_no
/-- a word that the tables alone decide, or a good one -/
def vx_ot (w : Cond) : Bool := w.onTables || goodWord w
theorem vx_ot_at {args a' : Array Value} {s U : State} {w : Cond} (hW : s.WarmedH U.vm) (hvm : s.vm = U.vm) (hg : vx_ot w = true) (h : w.before args s = true) : w.before a' U = true := by
  simp only [vx_ot, Bool.or_eq_true] at hg
  rcases hg with hg | hg
  · exact va_tabs hg hvm h
  · exact word_at hW (good_of_word hg) h
/-- a list's words: the good ones out of the method's own list, the others by premises of their own -/
theorem vx_hat {args : Array Value} {s : State} {L B : List Cond} (h1 : ∀ w ∈ L.filter goodWord, w.before args s = true) (h2 : ∀ w ∈ L.filter (fun w => !goodWord w), w ∈ B) (h3 : ∀ w ∈ B, w.before args s = true) : ∀ w ∈ L, w.before args s = true := by
  intro w hw
  by_cases g : goodWord w = true
  · exact h1 w (List.mem_filter.mpr ⟨hw, g⟩)
  · refine h3 w (h2 w (List.mem_filter.mpr ⟨hw, ?_⟩))
    show (!goodWord w) = true
    cases hgw : goodWord w
    · rfl
    · exact absurd hgw g
theorem vx_c {args : Array Value} {s : State} {w : Cond} {B : List Cond} (h : w.before args s = true) (t : ∀ w ∈ B, w.before args s = true) : ∀ w' ∈ w :: B, w'.before args s = true := fun w' h' => (List.mem_cons.mp h').elim (fun e => by rw [e]; exact h) (t w')
theorem vx_n {args : Array Value} {s : State} : ∀ w ∈ ([] : List Cond), w.before args s = true := fun _ h => nomatch h
theorem vx_own {args : Array Value} {s : State} {L : List Cond} (h1 : ∀ w ∈ L.filter vx_no, w.before args s = true)
    (hU : (Cond.isRef (.static Bundle.tN "UNASSIGNED_STACK" Bundle.steD)).before args s = true) (hN : (Cond.isRef (.static Bundle.tN "SUPPRESSED_SENTINEL" Bundle.listD)).before args s = true)
    (lU : (Cond.laysStatic Bundle.tN "UNASSIGNED_STACK" Bundle.steD).before args s = true) (lN : (Cond.laysStatic Bundle.tN "SUPPRESSED_SENTINEL" Bundle.listD).before args s = true) : ∀ w ∈ L, w.before args s = true := by
  intro w hw
  by_cases e1 : w = .isRef (.static Bundle.tN "UNASSIGNED_STACK" Bundle.steD)
  · rw [e1]; exact hU
  · by_cases e2 : w = .isRef (.static Bundle.tN "SUPPRESSED_SENTINEL" Bundle.listD)
    · rw [e2]; exact hN
    · by_cases e3 : w = .laysStatic Bundle.tN "UNASSIGNED_STACK" Bundle.steD
      · rw [e3]; exact lU
      · by_cases e4 : w = .laysStatic Bundle.tN "SUPPRESSED_SENTINEL" Bundle.listD
        · rw [e4]; exact lN
        · exact h1 w (List.mem_filter.mpr ⟨hw, by unfold vx_no; rw [decide_eq_true e1, decide_eq_true e2, decide_eq_true e3, decide_eq_true e4]; rfl⟩)
/-- where a static field lies, its class's statics cell in H -/
def vx_L (C n d : String) (A : Nat → Prop) (U : State) (H : Heap) : Prop := ∃ (c : ClassId) (k : Class) (i : Nat) (f : Field) (a : Nat) (cell : Cell), U.vm.findClass C = some c ∧ U.fieldFound? C n d = some (c, k, i, f) ∧ f.isStatic = true ∧ k.statics = some a ∧ H[a]? = some cell ∧ cell.vm.isStatics = true ∧ cell.cls = c ∧ f.slot < cell.slots.size ∧ k.staticTypes[f.slot]? = some f.type ∧ ¬ A a
theorem vx_L.moved {C n d : String} {A : Nat → Prop} {u U : State} {H : Heap} (hvm : u.vm.Alike U.vm) (h : vx_L C n d A u H) : vx_L C n d A U H := by
  obtain ⟨c, k, i, f, a, cell, h1, h2, h3, h4, h5, h6, h7, h8, h9, h10⟩ := h
  obtain ⟨k', hi', he⟩ := State.fieldFound?_setVm hvm h2
  exact ⟨c, k', i, f, a, cell, by rw [hvm.findClass]; exact h1, hi', h3, by rw [he]; exact h4, h5, h6, h7, h8, by rw [he]; exact h9, h10⟩
theorem vx_L.kept {C n d : String} {A : Nat → Prop} {U : State} {H H1 : Heap} (h : vx_L C n d A U H) (hq : ∀ a : Nat, a < H.size → ¬ A a → H1[a]? = H[a]?) : vx_L C n d A U H1 := by
  obtain ⟨c, k, i, f, a, cell, h1, h2, h3, h4, h5, h6, h7, h8, h9, h10⟩ := h
  exact ⟨c, k, i, f, a, cell, h1, h2, h3, h4, by rw [hq a (Array.getElem?_eq_some_iff.mp h5).1 h10]; exact h5, h6, h7, h8, h9, h10⟩
theorem vx_L.narrow {C n d : String} {A B : Nat → Prop} {U : State} {H : Heap} (h : vx_L C n d A U H) (hAB : ∀ q, B q → A q) : vx_L C n d B U H := by
  obtain ⟨c, k, i, f, a, cell, h1, h2, h3, h4, h5, h6, h7, h8, h9, h10⟩ := h
  exact ⟨c, k, i, f, a, cell, h1, h2, h3, h4, h5, h6, h7, h8, h9, fun z => h10 (hAB _ z)⟩
theorem vx_L.word {C n d : String} {A : Nat → Prop} {s : State} {args : Array Value} (h : vx_L C n d A s s.heap) : (Cond.laysStatic C n d).before args s = true := by
  obtain ⟨c, k, i, f, a, cell, h1, h2, h3, h4, h5, h6, h7, h8, h9, -⟩ := h
  show (Cond.laysStatic C n d).holds args s none s [] = true
  exact Cond.laysStatic_of h1 h2 h3 h4 h5 h6 h7 h8 h9
/-- .. and what it holds: null or some reference -/
def vx_Zq (C n d : String) (A : Nat → Prop) (U : State) (H : Heap) : Prop := va_Zq C n d A U H ∧ vx_L C n d A U H
theorem vx_Zq.moved {C n d : String} {A : Nat → Prop} {u U : State} {H : Heap} (hvm : u.vm.Alike U.vm) (h : vx_Zq C n d A u H) : vx_Zq C n d A U H := ⟨va_Zq.moved hvm h.1, vx_L.moved hvm h.2⟩
theorem vx_Zq.kept {C n d : String} {A : Nat → Prop} {U : State} {H H1 : Heap} (h : vx_Zq C n d A U H) (hq : ∀ a : Nat, a < H.size → ¬ A a → H1[a]? = H[a]?) : vx_Zq C n d A U H1 := ⟨va_Zq.kept h.1 hq, vx_L.kept h.2 hq⟩
theorem vx_Zq.narrow {C n d : String} {A B : Nat → Prop} {U : State} {H : Heap} (h : vx_Zq C n d A U H) (hAB : ∀ q, B q → A q) : vx_Zq C n d B U H := ⟨va_Zq.narrow h.1 hAB, vx_L.narrow h.2 hAB⟩
theorem vx_Zqof {args : Array Value} {s : State} {C n d : String} {A : Nat → Prop} (hl : (Cond.laysStatic C n d).before args s = true) (hini : (Cond.initialized C).before args s = true) (h : (Cond.isRef (.static C n d)).before args s = true) (hA : ∀ a : Nat, a < s.heap.size → ¬ A a) : vx_Zq C n d A s s.heap := by
  refine ⟨va_Zqof hl hini h hA, ?_⟩
  obtain ⟨c, k, i, f, a, cell, h1, h2, h3, h4, h5, h6, h7, h8, h9⟩ := Cond.laysStatic_spec hl
  exact ⟨c, k, i, f, a, cell, h1, h2, h3, h4, h5, h6, h7, h8, h9, hA a (Array.getElem?_eq_some_iff.mp h5).1⟩
theorem vx_isRef {C n d : String} {v : Value} {A : Nat → Prop} {s : State} {args : Array Value} (h : va_Z C n d v A s s.heap) (hv : v.isRef = true) : (Cond.isRef (.static C n d)).before args s = true := by
  obtain ⟨cf, kf, fi, f, a, cell, h1, h2, h3, h4, h5, h6, h7, -⟩ := h
  have he : (Term.static C n d).eval args s none [] s = some v := by
    simp [Term.eval, State.fieldNamed?, h1, h2, h4, h5, h6, h7]
  simp only [Cond.before, Cond.holds, Cond.value, he]
  cases v <;> simp_all [Value.isRef]
theorem vx_isRefq {C n d : String} {A : Nat → Prop} {s : State} {args : Array Value} (h : va_Zq C n d A s s.heap) : (Cond.isRef (.static C n d)).before args s = true := by
  rcases h with h | ⟨t, h⟩
  · exact vx_isRef h rfl
  · exact vx_isRef h rfl
/-- the same frame, seen from here: as if the method were called anew in this heap -/
theorem vx_rebase {T : State} (X : Stand p l e R s m args below meth c T locs cells slots) {R' : Room} (hf : R'.frames ≤ R.frames) (hl : R'.locals ≤ R.locals) (hc : cells + R'.cells ≤ R.cells) (hs : slots + R'.slots ≤ R.slots) :
    Stand p l e R' ((T.setVm s.vm).setFrames (.invoking m args :: below)) m args below meth c T [] 0 0 := by
  have htop : (T.setVm s.vm).topJava?.isSome := X.here.top
  have hF : ((T.setVm s.vm).setFrames (.invoking m args :: below)).frames = .invoking m args :: below := State.frames_setFrames _ (State.cur_lt_of_top htop)
  obtain ⟨g₀, hg0⟩ := Option.isSome_iff_exists.mp htop
  obtain ⟨r, hr⟩ := State.topJava?_eq_some.mp hg0
  have hl9 : e.platform.stackLimits (T.setVm s.vm).me = e.platform.stackLimits s.me := X.limits
  have hb9 : (T.setVm s.vm).me.stackBytes = s.me.stackBytes := X.bytes
  refine ⟨X.admits, X.cas, X.clock, hF, ?_, X.hears, X.method, X.code, X.here, X.tail, X.warmed, ?_, ?_, ?_⟩
  · have h := X.room
    have hU : ((T.setVm s.vm).setFrames (.invoking m args :: below)).localsInUse = s.localsInUse := by
      rw [State.localsInUse_invoking hF (meth := meth) (c := c) X.method X.code, State.localsInUse_invoking X.frames X.method X.code]
    simp only [State.hasRoom, Bool.and_eq_true, decide_eq_true_eq] at h ⊢
    obtain ⟨⟨⟨⟨h1, h2, h3, h4, h5, h6⟩, h7⟩, h8⟩, h9⟩ := h
    rw [X.frames, List.length_cons] at h2 h3
    have q1 := X.heapSize
    have q2 := X.used
    simp only [hF, hU, List.length_cons, State.stackLimits_setFrames, State.stackBytes_setFrames, hl9, hb9]
    refine ⟨⟨⟨⟨by omega, by omega, by omega, by omega, by omega, h6⟩, ?_⟩, ?_⟩, X.book⟩
    · show T.heap.size + R'.cells ≤ e.platform.maxCells
      omega
    · show T.slotsUsed + R'.slots ≤ e.platform.maxSlots
      omega
  · rw [State.stackLimits_setFrames]; rfl
  · rw [State.stackBytes_setFrames]; rfl
  · refine ⟨?_, Nat.le_refl _, Nat.le_refl _, ?_, ?_, fun a c9 h9 => ⟨c9, h9, rfl, rfl, fun _ _ => rfl⟩⟩
    · obtain ⟨t, ht, -⟩ := State.frames_cons hr
      show T.setVm s.vm = { ((T.setVm s.vm).setFrames (.invoking m args :: below)).setFrames (T.setVm s.vm).frames with heap := T.heap, slotsUsed := T.slotsUsed }
      rw [State.setFrames_setFrames, State.setFrames_self ht]
      rfl
    · show T.slotsUsed = T.slotsUsed + ((T.heap.toList.drop T.heap.size).map (·.slots.size)).sum
      rw [List.drop_eq_nil_of_le (Nat.le_of_eq Array.length_toList)]
      rfl
    · show ((T.heap.toList.drop T.heap.size).map (·.slots.size)).sum ≤ 0
      rw [List.drop_eq_nil_of_le (Nat.le_of_eq Array.length_toList)]
      exact Nat.le_refl _
/-- 'throw new E()': new; dup; invokespecial; athrow -/
theorem vx_throw0 {cc : ByteArray} {pc : Nat} (hexec : p.tables.exec = Jvm.exec) (hb : c.code = cc) (hl : l.stackTraces = false) {own cls : String} {names : List String} {ik ic mc ms : Nat} {A : Nat → Prop}
    (hown : s.vm.findClass own = some m.cls) (hcls : Bundle.fit cls = true) (hnames : ∀ n ∈ names, Bundle.fit n = true)
    (hk : (Cond.classLink own ik cls).before args s = true) (hini : (Cond.initialized cls).before args s = true) (hat : ∀ w ∈ vx_at0 own ic cls names, w.before args s = true)
    (hgood : ∀ w ∈ Cond.classLink own ik cls :: Cond.initialized cls :: vx_at0 own ic cls names, vx_ot w = true)
    (hU : vx_Zq Bundle.tN "UNASSIGNED_STACK" Bundle.steD A s s.heap) (hN : vx_Zq Bundle.tN "SUPPRESSED_SENTINEL" Bundle.listD A s s.heap) (hS : va_S A s.heap H locs) (hsize : ls.size = c.maxLocals)
    (d0 : decode cc pc = .ok (.new ik, 3)) (d3 : decode cc (pc + 3) = .ok (.dup, 1)) (d4 : decode cc (pc + 4) = .ok (.invokespecial ic, 3)) (d7 : decode cc (pc + 7) = .ok (.athrow, 1))
    (hout : ∀ x ∈ c.exceptionTable.toList, covers x (pc + 7) = false)
    (hRframes : names.length + 3 < R.frames) (hRlocals : (rest.map fun v => v.category).sum + (13 * (names.length + 1) + 42) ≤ R.locals) (hRcells : cells + 1 ≤ R.cells) (hRslots : slots + 6 ≤ R.slots) (hlocks : meth.locks = false)
    (hx : ∀ t : State, s.vm.Alike t.vm → H.size ≤ t.heap.size → (∀ q : Nat, q < H.size → t.heap[q]? = H[q]?) → XC cls s t)
    (hf : ∀ z ∈ locs, free z.base) (hc : cells + 1 ≤ mc) (hs : slots + 6 ≤ ms) :
    W p l e R s m args below meth c H locs cells slots (vx_MQ below Qc XC args s mc ms free) (F0 m pc ls rest) := by
  intro T hT X
  have htr : e.platform.stackTraces = false := (show e.platform.stackTraces = l.stackTraces by rw [X.admits.platform]).trans hl
  have Y := vx_rebase X (R' := { frames := R.frames, locals := R.locals, cells := 1, slots := 6 }) (Nat.le_refl _) (Nat.le_refl _) hRcells hRslots
  obtain ⟨s', hA⟩ : ∃ z, z = (T.setVm s.vm).setFrames (.invoking m args :: below) := ⟨_, rfl⟩
  rw [← hA] at Y
  have hvm : s'.vm = s.vm := by rw [hA]; rfl
  have hhp : s'.heap = H := by rw [hA]; exact hT
  have hW0 : s.WarmedH s'.vm := by rw [hvm]; exact State.WarmedH.refl s
  have hat' : ∀ w ∈ vx_at0 own ic cls names, w.before args s' = true := fun w hw => vx_ot_at hW0 hvm.symm (hgood w (List.mem_cons_of_mem _ (List.mem_cons_of_mem _ hw))) (hat w hw)
  have hk' : (Cond.classLink own ik cls).before args s' = true := vx_ot_at hW0 hvm.symm (hgood _ List.mem_cons_self) hk
  have hini' : (Cond.initialized cls).before args s' = true := vx_ot_at hW0 hvm.symm (hgood _ (List.mem_cons_of_mem _ List.mem_cons_self)) hini
  have hU' : vx_Zq Bundle.tN "UNASSIGNED_STACK" Bundle.steD A s' s'.heap := by rw [hhp]; exact vx_Zq.moved hW0.alike (hU.kept hS.2.1)
  have hN' : vx_Zq Bundle.tN "SUPPRESSED_SENTINEL" Bundle.listD A s' s'.heap := by rw [hhp]; exact vx_Zq.moved hW0.alike (hN.kept hS.2.1)
  have h : ∀ w ∈ Bundle.ownAtoms0 own ic cls names, w.before args s' = true := vx_own hat' (vx_isRefq hU'.1) (vx_isRefq hN'.1) hU'.2.word hN'.2.word
  have hown' : s'.vm.findClass own = some m.cls := by rw [hvm]; exact hown
  have hins : (Cond.instantiable cls 6).before args s' = true := h _ (by simp [Bundle.ownAtoms0])
  obtain ⟨vm₁, cX, kX, hfX, hkX, -, -, X₁, st1⟩ := Y.newCold hexec (own := own) (C := cls) (index := ik) (n := 6) hown' hk' hins hini'
    (g := F0 m pc ls rest) rfl (by rw [hb]; exact d0) (Nat.le_refl _) (Nat.le_refl _)
  generalize hT1 : (T.setVm vm₁).pushCell { cls := cX, slots := kX.instanceTypes.map defaultValue, vm := .none } = T1 at X₁ st1
  have hcat : (Value.ref T.heap.size).category = 1 := rfl
  have hcellA : T1.heap[T.heap.size]? = some (freshCell cX kX) := by rw [← hT1]; exact State.heap_pushCell_size _ _
  have d3' : decode c.code (pc + 3) = .ok (.dup, 1) := by rw [hb]; exact d3
  obtain ⟨U, hsteps, hrun, hend, hW, hsame, ce, hce, hO⟩ := X₁.ctorThrow0 hexec htr (own := own) (cls := cls) (names := names) (ic := ic) hown' hcls hnames h (fun x hx => nomatch hx) hfX hkX hcellA (by rw [hhp, hT]; exact Nat.le_refl _)
    (g := { method := m, pc := pc + 4, locals := ls, stack := .ref T.heap.size :: .ref T.heap.size :: rest, locked := none }) rfl hsize rfl rfl (rest := rest) rfl
    (by rw [hb]; exact d4) (by rw [hb]; exact d7) hout hRframes (by simp only [List.map_cons, List.sum_cons, hcat]; omega) hlocks
  obtain ⟨f1, f2⟩ := vx_frame hsame
  rw [hhp] at f1 f2
  have hWs : s.WarmedH U.vm := State.WarmedH.trans hW0 hW
  have hcl : s.vm.findClass cls = some ce.cls := by
    have h9 := hO.cls
    rw [hvm] at h9
    exact h9
  have hall : s.sameButNew ({ U with vm := s.vm } : State) locs mc ms := by
    subst hA
    obtain ⟨e1, e2⟩ := hsame
    rw [State.setFrames_setFrames] at e1
    have h2 : (T.setVm s.vm).sameButNew ({ U with vm := s.vm } : State) [] (0 + 1) (0 + 6) := ⟨e1, e2⟩
    have h3 := X.same.trans h2
    rw [List.append_nil] at h3
    exact h3.mono hc hs
  refine ⟨U, ?_, .threw T.heap.size, hrun, hend, Or.inr ⟨T.heap.size, rfl, cls, ce, locs, hx U hWs.alike f1 (fun q hq => f2 q hq (fun z hz => nomatch hz)), hce, hO.vm, hcl, hWs, hall, hf⟩⟩
  refine st1 _ ?_
  show Steps p.tables e below (T1.setTop { method := m, pc := pc + 3, locals := ls, stack := .ref T.heap.size :: rest, locked := none }) _
  jvm_step X₁.here [X₁.here.top, hexec, d3', Value.category]
  exact hsteps
/-- 'throw new E("text")': new; dup; ldc; invokespecial; athrow -/
theorem vx_throwS {cc : ByteArray} {pc : Nat} (hexec : p.tables.exec = Jvm.exec) (hb : c.code = cc) (hl : l.stackTraces = false) {own cls text : String} {names : List String} {ik is ic mc ms sa : Nat} {A : Nat → Prop}
    (hown : s.vm.findClass own = some m.cls) (hcls : Bundle.fit cls = true) (hnames : ∀ n ∈ names, Bundle.fit n = true)
    (hk : (Cond.classLink own ik cls).before args s = true) (hini : (Cond.initialized cls).before args s = true) (hstr : vk_R own is text sa s) (hat : ∀ w ∈ vx_atS own ic cls names, w.before args s = true)
    (hgood : ∀ w ∈ Cond.classLink own ik cls :: Cond.initialized cls :: vx_atS own ic cls names, vx_ot w = true)
    (hU : vx_Zq Bundle.tN "UNASSIGNED_STACK" Bundle.steD A s s.heap) (hN : vx_Zq Bundle.tN "SUPPRESSED_SENTINEL" Bundle.listD A s s.heap) (hS : va_S A s.heap H locs) (hsize : ls.size = c.maxLocals)
    (d0 : decode cc pc = .ok (.new ik, 3)) (d3 : decode cc (pc + 3) = .ok (.dup, 1)) (d4 : decode cc (pc + 4) = .ok (.ldc is, 2)) (d6 : decode cc (pc + 6) = .ok (.invokespecial ic, 3)) (d9 : decode cc (pc + 9) = .ok (.athrow, 1))
    (hout : ∀ x ∈ c.exceptionTable.toList, covers x (pc + 9) = false)
    (hRframes : names.length + 3 < R.frames) (hRlocals : (rest.map fun v => v.category).sum + (13 * (names.length + 1) + 43) ≤ R.locals) (hRcells : cells + 1 ≤ R.cells) (hRslots : slots + 6 ≤ R.slots) (hlocks : meth.locks = false)
    (hx : ∀ t : State, s.vm.Alike t.vm → H.size ≤ t.heap.size → (∀ q : Nat, q < H.size → t.heap[q]? = H[q]?) → XC cls s t)
    (hf : ∀ z ∈ locs, free z.base) (hc : cells + 1 ≤ mc) (hs : slots + 6 ≤ ms) :
    W p l e R s m args below meth c H locs cells slots (vx_MQ below Qc XC args s mc ms free) (F0 m pc ls rest) := by
  intro T hT X
  have htr : e.platform.stackTraces = false := (show e.platform.stackTraces = l.stackTraces by rw [X.admits.platform]).trans hl
  have Y := vx_rebase X (R' := { frames := R.frames, locals := R.locals, cells := 1, slots := 6 }) (Nat.le_refl _) (Nat.le_refl _) hRcells hRslots
  obtain ⟨s', hA⟩ : ∃ z, z = (T.setVm s.vm).setFrames (.invoking m args :: below) := ⟨_, rfl⟩
  rw [← hA] at Y
  have hvm : s'.vm = s.vm := by rw [hA]; rfl
  have hhp : s'.heap = H := by rw [hA]; exact hT
  have hW0 : s.WarmedH s'.vm := by rw [hvm]; exact State.WarmedH.refl s
  have hat' : ∀ w ∈ vx_atS own ic cls names, w.before args s' = true := fun w hw => vx_ot_at hW0 hvm.symm (hgood w (List.mem_cons_of_mem _ (List.mem_cons_of_mem _ hw))) (hat w hw)
  have hk' : (Cond.classLink own ik cls).before args s' = true := vx_ot_at hW0 hvm.symm (hgood _ List.mem_cons_self) hk
  have hini' : (Cond.initialized cls).before args s' = true := vx_ot_at hW0 hvm.symm (hgood _ (List.mem_cons_of_mem _ List.mem_cons_self)) hini
  have hU' : vx_Zq Bundle.tN "UNASSIGNED_STACK" Bundle.steD A s' s'.heap := by rw [hhp]; exact vx_Zq.moved hW0.alike (hU.kept hS.2.1)
  have hN' : vx_Zq Bundle.tN "SUPPRESSED_SENTINEL" Bundle.listD A s' s'.heap := by rw [hhp]; exact vx_Zq.moved hW0.alike (hN.kept hS.2.1)
  have h : ∀ w ∈ Bundle.ownAtoms own ic cls names, w.before args s' = true := vx_own hat' (vx_isRefq hU'.1) (vx_isRefq hN'.1) hU'.2.word hN'.2.word
  have hown' : s'.vm.findClass own = some m.cls := by rw [hvm]; exact hown
  have hins : (Cond.instantiable cls 6).before args s' = true := h _ (by simp [Bundle.ownAtoms])
  obtain ⟨vm₁, cX, kX, hfX, hkX, -, -, X₁, st1⟩ := Y.newCold hexec (own := own) (C := cls) (index := ik) (n := 6) hown' hk' hins hini'
    (g := F0 m pc ls rest) rfl (by rw [hb]; exact d0) (Nat.le_refl _) (Nat.le_refl _)
  generalize hT1 : (T.setVm vm₁).pushCell { cls := cX, slots := kX.instanceTypes.map defaultValue, vm := .none } = T1 at X₁ st1
  have hcat : (Value.ref T.heap.size).category = 1 := rfl
  have hcellA : T1.heap[T.heap.size]? = some (freshCell cX kX) := by rw [← hT1]; exact State.heap_pushCell_size _ _
  have d3' : decode c.code (pc + 3) = .ok (.dup, 1) := by rw [hb]; exact d3
  have d4' : decode c.code (pc + 4) = .ok (.ldc is, 2) := by rw [hb]; exact d4
  have hstr' : vk_R own is text sa s' := vk_R.warm hW0 hstr
  obtain ⟨U, hsteps, hrun, hend, hW, hsame, ce, hce, hO⟩ := X₁.ctorThrowS hexec htr (own := own) (cls := cls) (names := names) (ic := ic) hown' hcls hnames h (fun x hx => nomatch hx) hfX hkX hcellA (by rw [hhp, hT]; exact Nat.le_refl _) (msg := .ref sa) rfl
    (g := { method := m, pc := pc + 6, locals := ls, stack := .ref sa :: .ref T.heap.size :: .ref T.heap.size :: rest, locked := none }) rfl hsize rfl rfl (rest := rest) rfl
    (by rw [hb]; exact d6) (by rw [hb]; exact d9) hout hRframes (by simp only [List.map_cons, List.sum_cons, hcat]; omega) hlocks
  obtain ⟨f1, f2⟩ := vx_frame hsame
  rw [hhp] at f1 f2
  have hWs : s.WarmedH U.vm := State.WarmedH.trans hW0 hW
  have hcl : s.vm.findClass cls = some ce.cls := by
    have h9 := hO.cls
    rw [hvm] at h9
    exact h9
  have hall : s.sameButNew ({ U with vm := s.vm } : State) locs mc ms := by
    subst hA
    obtain ⟨e1, e2⟩ := hsame
    rw [State.setFrames_setFrames] at e1
    have h2 : (T.setVm s.vm).sameButNew ({ U with vm := s.vm } : State) [] (0 + 1) (0 + 6) := ⟨e1, e2⟩
    have h3 := X.same.trans h2
    rw [List.append_nil] at h3
    exact h3.mono hc hs
  refine ⟨U, ?_, .threw T.heap.size, hrun, hend, Or.inr ⟨T.heap.size, rfl, cls, ce, locs, hx U hWs.alike f1 (fun q hq => f2 q hq (fun z hz => nomatch hz)), hce, hO.vm, hcl, hWs, hall, hf⟩⟩
  refine st1 _ ?_
  show Steps p.tables e below (T1.setTop { method := m, pc := pc + 3, locals := ls, stack := .ref T.heap.size :: rest, locked := none }) _
  jvm_step X₁.here [X₁.here.top, hexec, d3', Value.category]
  exact X₁.ldcString hexec (own := own) (text := text) (index := is) (a := sa) hown' hstr'.1 hstr'.2
    (g := { method := m, pc := pc + 4, locals := ls, stack := .ref T.heap.size :: .ref T.heap.size :: rest, locked := none }) rfl d4' _ hsteps
/-- 'throw new E("text")', the text by a wide index -/
theorem vx_throwSW {cc : ByteArray} {pc : Nat} (hexec : p.tables.exec = Jvm.exec) (hb : c.code = cc) (hl : l.stackTraces = false) {own cls text : String} {names : List String} {ik is ic mc ms sa : Nat} {A : Nat → Prop}
    (hown : s.vm.findClass own = some m.cls) (hcls : Bundle.fit cls = true) (hnames : ∀ n ∈ names, Bundle.fit n = true)
    (hk : (Cond.classLink own ik cls).before args s = true) (hini : (Cond.initialized cls).before args s = true) (hstr : vk_R own is text sa s) (hat : ∀ w ∈ vx_atS own ic cls names, w.before args s = true)
    (hgood : ∀ w ∈ Cond.classLink own ik cls :: Cond.initialized cls :: vx_atS own ic cls names, vx_ot w = true)
    (hU : vx_Zq Bundle.tN "UNASSIGNED_STACK" Bundle.steD A s s.heap) (hN : vx_Zq Bundle.tN "SUPPRESSED_SENTINEL" Bundle.listD A s s.heap) (hS : va_S A s.heap H locs) (hsize : ls.size = c.maxLocals)
    (d0 : decode cc pc = .ok (.new ik, 3)) (d3 : decode cc (pc + 3) = .ok (.dup, 1)) (d4 : decode cc (pc + 4) = .ok (.ldc_w is, 3)) (d7 : decode cc (pc + 7) = .ok (.invokespecial ic, 3)) (d10 : decode cc (pc + 10) = .ok (.athrow, 1))
    (hout : ∀ x ∈ c.exceptionTable.toList, covers x (pc + 10) = false)
    (hRframes : names.length + 3 < R.frames) (hRlocals : (rest.map fun v => v.category).sum + (13 * (names.length + 1) + 43) ≤ R.locals) (hRcells : cells + 1 ≤ R.cells) (hRslots : slots + 6 ≤ R.slots) (hlocks : meth.locks = false)
    (hx : ∀ t : State, s.vm.Alike t.vm → H.size ≤ t.heap.size → (∀ q : Nat, q < H.size → t.heap[q]? = H[q]?) → XC cls s t)
    (hf : ∀ z ∈ locs, free z.base) (hc : cells + 1 ≤ mc) (hs : slots + 6 ≤ ms) :
    W p l e R s m args below meth c H locs cells slots (vx_MQ below Qc XC args s mc ms free) (F0 m pc ls rest) := by
  intro T hT X
  have htr : e.platform.stackTraces = false := (show e.platform.stackTraces = l.stackTraces by rw [X.admits.platform]).trans hl
  have Y := vx_rebase X (R' := { frames := R.frames, locals := R.locals, cells := 1, slots := 6 }) (Nat.le_refl _) (Nat.le_refl _) hRcells hRslots
  obtain ⟨s', hA⟩ : ∃ z, z = (T.setVm s.vm).setFrames (.invoking m args :: below) := ⟨_, rfl⟩
  rw [← hA] at Y
  have hvm : s'.vm = s.vm := by rw [hA]; rfl
  have hhp : s'.heap = H := by rw [hA]; exact hT
  have hW0 : s.WarmedH s'.vm := by rw [hvm]; exact State.WarmedH.refl s
  have hat' : ∀ w ∈ vx_atS own ic cls names, w.before args s' = true := fun w hw => vx_ot_at hW0 hvm.symm (hgood w (List.mem_cons_of_mem _ (List.mem_cons_of_mem _ hw))) (hat w hw)
  have hk' : (Cond.classLink own ik cls).before args s' = true := vx_ot_at hW0 hvm.symm (hgood _ List.mem_cons_self) hk
  have hini' : (Cond.initialized cls).before args s' = true := vx_ot_at hW0 hvm.symm (hgood _ (List.mem_cons_of_mem _ List.mem_cons_self)) hini
  have hU' : vx_Zq Bundle.tN "UNASSIGNED_STACK" Bundle.steD A s' s'.heap := by rw [hhp]; exact vx_Zq.moved hW0.alike (hU.kept hS.2.1)
  have hN' : vx_Zq Bundle.tN "SUPPRESSED_SENTINEL" Bundle.listD A s' s'.heap := by rw [hhp]; exact vx_Zq.moved hW0.alike (hN.kept hS.2.1)
  have h : ∀ w ∈ Bundle.ownAtoms own ic cls names, w.before args s' = true := vx_own hat' (vx_isRefq hU'.1) (vx_isRefq hN'.1) hU'.2.word hN'.2.word
  have hown' : s'.vm.findClass own = some m.cls := by rw [hvm]; exact hown
  have hins : (Cond.instantiable cls 6).before args s' = true := h _ (by simp [Bundle.ownAtoms])
  obtain ⟨vm₁, cX, kX, hfX, hkX, -, -, X₁, st1⟩ := Y.newCold hexec (own := own) (C := cls) (index := ik) (n := 6) hown' hk' hins hini'
    (g := F0 m pc ls rest) rfl (by rw [hb]; exact d0) (Nat.le_refl _) (Nat.le_refl _)
  generalize hT1 : (T.setVm vm₁).pushCell { cls := cX, slots := kX.instanceTypes.map defaultValue, vm := .none } = T1 at X₁ st1
  have hcat : (Value.ref T.heap.size).category = 1 := rfl
  have hcellA : T1.heap[T.heap.size]? = some (freshCell cX kX) := by rw [← hT1]; exact State.heap_pushCell_size _ _
  have d3' : decode c.code (pc + 3) = .ok (.dup, 1) := by rw [hb]; exact d3
  have d4' : decode c.code (pc + 4) = .ok (.ldc_w is, 3) := by rw [hb]; exact d4
  have hstr' : vk_R own is text sa s' := vk_R.warm hW0 hstr
  obtain ⟨U, hsteps, hrun, hend, hW, hsame, ce, hce, hO⟩ := X₁.ctorThrowS hexec htr (own := own) (cls := cls) (names := names) (ic := ic) hown' hcls hnames h (fun x hx => nomatch hx) hfX hkX hcellA (by rw [hhp, hT]; exact Nat.le_refl _) (msg := .ref sa) rfl
    (g := { method := m, pc := pc + 7, locals := ls, stack := .ref sa :: .ref T.heap.size :: .ref T.heap.size :: rest, locked := none }) rfl hsize rfl rfl (rest := rest) rfl
    (by rw [hb]; exact d7) (by rw [hb]; exact d10) hout hRframes (by simp only [List.map_cons, List.sum_cons, hcat]; omega) hlocks
  obtain ⟨f1, f2⟩ := vx_frame hsame
  rw [hhp] at f1 f2
  have hWs : s.WarmedH U.vm := State.WarmedH.trans hW0 hW
  have hcl : s.vm.findClass cls = some ce.cls := by
    have h9 := hO.cls
    rw [hvm] at h9
    exact h9
  have hall : s.sameButNew ({ U with vm := s.vm } : State) locs mc ms := by
    subst hA
    obtain ⟨e1, e2⟩ := hsame
    rw [State.setFrames_setFrames] at e1
    have h2 : (T.setVm s.vm).sameButNew ({ U with vm := s.vm } : State) [] (0 + 1) (0 + 6) := ⟨e1, e2⟩
    have h3 := X.same.trans h2
    rw [List.append_nil] at h3
    exact h3.mono hc hs
  refine ⟨U, ?_, .threw T.heap.size, hrun, hend, Or.inr ⟨T.heap.size, rfl, cls, ce, locs, hx U hWs.alike f1 (fun q hq => f2 q hq (fun z hz => nomatch hz)), hce, hO.vm, hcl, hWs, hall, hf⟩⟩
  refine st1 _ ?_
  show Steps p.tables e below (T1.setTop { method := m, pc := pc + 3, locals := ls, stack := .ref T.heap.size :: rest, locked := none }) _
  jvm_step X₁.here [X₁.here.top, hexec, d3', Value.category]
  exact X₁.ldcStringW hexec (own := own) (text := text) (index := is) (a := sa) hown' hstr'.1 hstr'.2
    (g := { method := m, pc := pc + 4, locals := ls, stack := .ref T.heap.size :: .ref T.heap.size :: rest, locked := none }) rfl d4' _ hsteps
end Ends
section Bodies
variable {l : Launch}
theorem vx_ofW {y : MethodName} {ws ws' : List Cond} {rm : Room} {Pc : Array Value → State → Prop} {Qc : Array Value → State → Outcome → State → Prop} {XC : String → State → State → Prop} {mc ms : Nat} {free : Addr → Prop} {cc : ByteArray} {maxL : Nat} {ret : Option FieldType}
    (hy : plainName y.cls = true) (hw : ws = Cond.code y cc maxL ret :: ws')
    (body : ∀ p e s m args below meth c s₁, BodyLoose p l y (headSpec ws rm) cc maxL ret e s m args below meth c s₁ → c.maxLocals = maxL → (∀ x ∈ c.exceptionTable.toList, False) → Pc args s →
      W p l e (headSpec ws rm).room s m args below meth c s.heap [] 0 0 (vx_MQ below Qc XC args s mc ms free) (entryFrame m args maxL)) : vx_Met l y ws rm Pc Qc XC mc ms free := by
  refine MetFree.of_bodyS (code := cc) (maxLocals := maxL) (ret := ret) hy ?_ ?_
  · intro args s m h hn
    obtain ⟨meth, c, h1, h2, h3, h4, h5, h6, -, -⟩ := Cond.code_spec hn (atoms_spec (ws := ws) h _ (by rw [hw]; exact List.mem_cons_self))
    exact ⟨meth, c, h1, h2, h3, h4, h5, h6⟩
  · intro p e s m args below meth c s₁ B hml hP _
    have hh0 : s₁.heap = s.heap := by rw [B.state]; rfl
    have ht : ∀ x ∈ c.exceptionTable.toList, False := by
      obtain ⟨meth9, c9, h1, h2, -, -, -, -, h7, -⟩ := Cond.code_spec B.named (atoms_spec (ws := ws) B.pre _ (by rw [hw]; exact List.mem_cons_self))
      cases Option.some.inj (h1.symm.trans B.method)
      cases Option.some.inj (h2.symm.trans (Stand.of_body B).code)
      intro x hx
      rw [Array.isEmpty_iff.mp h7] at hx
      cases hx
    obtain ⟨t, a1, o, b1, b2, b3⟩ := body p e s m args below meth c s₁ B hml ht hP s₁ hh0 (Stand.of_body B)
    exact ⟨t, o, a1, b1, b2, b3⟩
/-- the table of a body with handlers -/
theorem vx_table {p : Program} {x y : MethodName} {S : Spec} {cc bytes : ByteArray} {maxL maxL' : Nat} {ret ret' : Option FieldType} {e : Env} {s s₁ : State} {m : MethodId} {args : Array Value} {below : List Frame} {meth : Method} {c : Code} {hh : List (Nat × Nat × Nat × Nat)}
    (B : BodyLoose p l y S cc maxL ret e s m args below meth c s₁) (h : (Cond.codeWith y bytes maxL' ret' hh).before args s = true) : c.exceptionTable.toList = tableOf hh := by
  obtain ⟨m9, meth9, c9, hn9, h1, h2, -, -, h6, -⟩ := Cond.codeWith_spec h
  cases Option.some.inj (hn9.symm.trans B.named)
  cases Option.some.inj (h1.symm.trans B.method)
  cases Option.some.inj (h2.symm.trans (Stand.of_body B).code)
  rw [← h6, table_eq]
end Bodies
end VXA
/-! ===== END ===== -/
/-! ===== BEGIN a static call of a method with an exception table ===== -/
section VXS
variable {p : Program} {l : Launch} {e : Env} {R : Room} {s : State} {m : MethodId} {args : Array Value} {below : List Frame} {meth : Method} {c : Code} {T : State} {H : Heap} {locs : List Loc} {cells slots : Nat}
abbrev vx_CSW (R : Room) (s : State) (args : Array Value) (own : String) (index : Nat) (y : MethodName) (bytes : ByteArray) (maxL : Nat) (ret : Option FieldType) (hh : List (Nat × Nat × Nat × Nat)) (ws : List Cond) (rm : Room) (mc ms n : Nat) : Prop :=
  (rm.cells = mc ∧ rm.slots = ms ∧ rm.frames + 1 ≤ R.frames ∧ 8 + (maxL + 11) + rm.locals ≤ R.locals ∧ (∀ w ∈ ws, ∀ (a' : Array Value) (U : State), s.WarmedH U.vm → w.before a' U = true) ∧ Cond.codeWith y bytes maxL ret hh ∈ ws) ∧
  (Cond.codeWith y bytes maxL ret hh).before args s = true ∧ (Cond.initialized y.cls).before args s = true ∧ (y.cls ≠ "java/lang/invoke/MethodHandle" ∧ y.cls ≠ "java/lang/invoke/VarHandle") ∧
  (∀ sig, parseMethodDescriptor y.desc = some sig → n = sig.parameters.length) ∧ (Cond.methodLink own index y).before args s = true ∧ (Cond.static y).before args s = true
theorem vx_cwSW {own : String} {index maxL mc ms : Nat} {y : MethodName} {bytes : ByteArray} {ret : Option FieldType} {hh : List (Nat × Nat × Nat × Nat)} {Ts ws ws' : List Cond} {rm : Room} (n : Nat) (ht : ∀ w ∈ Ts, w.before args s = true) (hT : GoodIn Ts (va_wsS own index y ws)) (hw : ws = Cond.codeWith y bytes maxL ret hh :: ws') (hrc : rm.cells = mc) (hrs : rm.slots = ms)
    (hd : y.cls ≠ "java/lang/invoke/MethodHandle" ∧ y.cls ≠ "java/lang/invoke/VarHandle" ∧ (parseMethodDescriptor y.desc).map (fun d => d.parameters.length) = some n) (hR : rm.frames + 1 ≤ R.frames ∧ 8 + (maxL + 11) + rm.locals ≤ R.locals) :
    vx_CSW R s args own index y bytes maxL ret hh ws rm mc ms n := by
  have ok : ∀ w ∈ va_wsS own index y ws, w.before args s = true := fun w h => ht w (hT w h).1
  have hG : GoodIn Ts ws := fun w h => hT w (by unfold va_wsS; exact List.mem_append_right _ h)
  have hc : Cond.codeWith y bytes maxL ret hh ∈ ws := by rw [hw]; exact List.mem_cons_self
  refine ⟨⟨hrc, hrs, hR.1, hR.2, pay_in ht hG, hc⟩, ht _ (hG _ hc).1, ok _ (by simp [va_wsS]), ⟨hd.1, hd.2.1⟩, fun sig h => ?_, ok _ (by simp [va_wsS]), ok _ (by simp [va_wsS])⟩
  have h2 := hd.2.2
  rw [h] at h2
  exact (Option.some.inj h2).symm
theorem vx_callSW (X : Stand p l e R s m args below meth c T locs cells slots) (hexec : p.tables.exec = Jvm.exec) {own : String} {index : Nat} {y : MethodName} {bytes : ByteArray} {maxL : Nat} {ret : Option FieldType} {hh : List (Nat × Nat × Nat × Nat)}
    (hown : s.vm.findClass own = some m.cls) (hlink : (Cond.methodLink own index y).before args s = true) (hstat : (Cond.static y).before args s = true) (hinit : (Cond.initialized y.cls).before args s = true)
    (hcode : (Cond.codeWith y bytes maxL ret hh).before args s = true) (hy : y.cls ≠ "java/lang/invoke/MethodHandle" ∧ y.cls ≠ "java/lang/invoke/VarHandle")
    {W9 : Nat} {Pre : Pt → Array Value → Prop} {Post : Pt → Array Value → Option Value → Pt → Prop} (hK : Back l R p e below s args y 3 W9 Pre Post)
    {g : JFrame} (hg : g.method = m) (hsize : g.locals.size = c.maxLocals) {argsL rest : List Value} (hlen : ∀ sig, parseMethodDescriptor y.desc = some sig → argsL.length = sig.parameters.length)
    (hstack : g.stack = argsL.reverse ++ rest) (hW : 2 * g.monitorRoom + (rest.map fun v => v.category).sum ≤ W9) (hdg : decode c.code g.pc = .ok (.invokestatic index, 3))
    (hpre : ∀ vm₁, s.WarmedH vm₁ → Pre ⟨T.setVm vm₁, locs, cells, slots⟩ argsL.toArray) :
    ∃ (v : Option Value) (vm₁ : Vm) (B : Pt), s.WarmedH vm₁ ∧ Stand p l e R s m args below meth c B.U B.locs B.cells B.slots ∧ Post ⟨T.setVm vm₁, locs, cells, slots⟩ argsL.toArray v B ∧
      ∀ target, Steps p.tables e below (B.U.setTop { g with pc := g.pc + 3, stack := v.toList ++ rest }) target → Steps p.tables e below (T.setTop g) target := by
  obtain ⟨mk, methM, cM, hnamed, hmethM, -, -, -, -, -, -, hsigM⟩ := Cond.codeWith_spec hcode
  have hstatic : methM.isStatic = true := Cond.static_spec hnamed hmethM hstat
  obtain ⟨kP, hkP, -⟩ := className_of_methodNamed hnamed
  have hinitP : kP.init = .initialized := Cond.initialized_spec (findClass_of_methodNamed hnamed) hkP hinit
  obtain ⟨vm₁, X₁, hstep₁⟩ := X.invokestatic hexec hown hlink hnamed hmethM hstatic hkP hinitP hy (g := g) hg (argsL := argsL) (rest := rest) (hlen _ hsigM) hstack hdg
  obtain ⟨v, B, X', hpost, hsteps⟩ := hK m meth c ⟨T.setVm vm₁, locs, cells, slots⟩ { g with stack := rest } (.invokestatic index) mk argsL.toArray X₁ hg hsize hdg hW (X₁.named hnamed) (hpre vm₁ X₁.warmed)
  exact ⟨v, vm₁, B, X₁.warmed, X', hpost, fun target h => hstep₁ _ fun acts => by rw [doInvoke_state]; exact hsteps.trans h⟩
theorem vx_runSW {y : MethodName} {bytes cc : ByteArray} {maxL nL mc ms n index : Nat} {ret : Option FieldType} {hh : List (Nat × Nat × Nat × Nat)} {ws : List Cond} {rm : Room} {Pc : Array Value → State → Prop} {Qc : Array Value → State → Outcome → State → Prop} {free : Addr → Prop} {Ts : List Cond} {own : String} {As rest : List Value} {g : JFrame}
    (S : CallFix p m c cc nL s args Ts own) (hM : Met l y ws rm Pc Qc mc ms free) (cw : vx_CSW R s args own index y bytes maxL ret hh ws rm mc ms n) (hp : PreS s H Pc As)
    (hg : g.method = m) (hn : As.length = n) (hsize : g.locals.size = nL) (hstack : g.stack = As.reverse ++ rest) (hW : 2 * g.monitorRoom + (rest.map fun v => v.category).sum ≤ 8) (hdg : decode cc g.pc = .ok (.invokestatic index, 3)) (hf : cells + mc ≤ R.cells ∧ slots + ms ≤ R.slots) :
    va_Run p l e R s m args below meth c H locs cells slots mc ms g rest (Qc As.toArray) (free) := by
  obtain ⟨⟨hrc, hrs, hfr, hlo, hws, hcw⟩, hcode, hini, hy, hlen, hl, hstt⟩ := cw
  have hK : Back l R p e below s args y 3 8 (PreOf R mc ms Pc) (PostOf Qc mc ms free) := va_backW (hh := hh) (bytes := bytes) (maxL := maxL) (ret := ret) hM hp.1 hrc hrs hfr hlo hws hcw (fun a' U hW => word_at hW (Or.inl (by first | rfl | simp [Cond.onTables, Cond.keeps, Cond.steady])) hini)
  obtain ⟨hx, hb, hml, ho, -⟩ := S
  intro T hT X
  obtain ⟨v, vm₁, ⟨U', l2, c2, s2⟩, hW₁, X', ⟨g', mk, t, L, e1, e2, hq, h1, hL, h2, h3⟩, st⟩ := vx_callSW X hx (hh := hh) (bytes := bytes) (maxL := maxL) (ret := ret) ho hl hstt hini hcode hy hK hg (hsize.trans hml.symm) (argsL := As) (rest := rest) (fun sig h => hn.trans (hlen sig h)) hstack hW (by rw [hb]; exact hdg)
    (fun vm₁ hW₁ => ⟨hf.1, hf.2, hp.2 (T.setVm vm₁) hT hW₁⟩)
  dsimp only [Pt.U, Pt.locs, Pt.cells, Pt.slots] at X' e1 e2 h1 h2 h3 st
  subst h1; subst h2; subst h3
  exact ⟨v, (T.setVm vm₁).calling g' mk As.toArray, t, U', L, hT, X', hL, e1, e2, hq, st⟩
/-- not caught here, past rows that name other classes: it goes on to the caller -/
theorem vx_outP {p : Program} {l : Launch} {e : Env} {R : Room} {s : State} {m : MethodId} {args : Array Value} {below : List Frame} {meth : Method} {c : Code} {H : Heap} {locs : List Loc} {cells slots : Nat} {free : Addr → Prop} {ls : Array Slot} {rest : List Value} {Qc : Array Value → State → Outcome → State → Prop} {XC : String → State → State → Prop}
    {pc : Nat} {own E : String} {ce : Cell} {q : Addr} {mc ms : Nat} (hown : s.vm.findClass own = some m.cls) (hlocks : meth.locks = false)
    (hpass : ∀ z ∈ c.exceptionTable.toList, covers z pc = false ∨ (z.catchType ≠ 0 ∧ ∃ nm : String, (Cond.classLink own z.catchType nm).before args s = true ∧ va_Nc E nm s)) (hcell : H[q]? = some ce) (hv : ce.vm = .none) (hcl : s.vm.findClass E = some ce.cls)
    (hx : ∀ t : State, t.heap = H → s.vm.Alike t.vm → XC E s t) (hf : ∀ z ∈ locs, free z.base) (hc : cells ≤ mc) (hs : slots ≤ ms) :
    vx_W p l e R s m args below meth c H locs cells slots (vx_MQ below Qc XC args s mc ms free) (F0 m pc ls rest) q := by
  intro T hT X
  have hpl : e.platform.magicAccessors = ({} : Platform).magicAccessors := by rw [X.admits.platform]
  obtain ⟨vm', hW', X', st⟩ := X.outThrough hlocks q (g := F0 m pc ls rest) rfl rfl rfl (cell := ce) (by rw [hT]; exact hcell) (by rw [hv]; rfl)
    (by obtain ⟨k9, h9, -⟩ := Vm.findClass_spec hcl; exact ⟨k9, h9⟩) (fun z hz => by
      rcases hpass z hz with h | ⟨hz0, nm, hl1, hn1⟩
      · exact Or.inl h
      · obtain ⟨c6, hc6, hcl6⟩ := Cond.classLink_spec hown hl1 e.platform hpl
        obtain ⟨a8, b8, h1, h2, h3⟩ := hn1
        cases Option.some.inj (h1.symm.trans hcl)
        cases Option.some.inj (h2.symm.trans hc6)
        exact Or.inr ⟨hz0, _, hcl6, h3⟩)
  obtain ⟨g₀, hfr⟩ := X'.frames_eq
  have hcell9 : ((T.setVm vm').setFrames (.throwing q :: below)).heap[q]? = some ce := by
    show T.heap[q]? = some ce
    rw [hT]; exact hcell
  have hend : Ended ((T.setVm vm').setFrames (.throwing q :: below)) below (.threw q) := State.frames_setFrames _ (State.cur_lt_of_frames hfr)
  refine ⟨(T.setVm vm').setFrames (.throwing q :: below), ?_, .threw q, X'.here.running, hend, Or.inr ⟨q, rfl, E, ce, locs, hx _ hT (X'.ends _).1.alike, hcell9, hv, hcl, (X'.ends _).1, (X'.ends _).2.mono hc hs, hf⟩⟩
  rw [X.pushThrowing_eq]
  exact st
/-- a thing of a world lies in the heap -/
theorem vx_lt {D : va_G} {cl : List vw_C} {ws : va_W} {H1 : Heap} (h : va_P D cl ws H1) {k : Nat} {q : Nat × va_E} (hk : ws[k]? = some q) : q.1 < H1.size := (h k q hk).lt
end VXS
/-! ===== END ===== -/
/-! ===== BEGIN methods with a table of their own: called by a name, returning or throwing ===== -/
section VXH
/-! vx_backW, vx_callVX, vx_callSX, vx_callVW, vx_runVW, vx_runVX, vx_runSX, vx_ofWH follow the same proofs as their sisters above (Free/Laws.lean, Shelf42/LK1.lean); vx_outP calls Shelf42/NT130.lean (outThrough). -/
section
variable {l : Launch} {R : Room} {p : Program} {e : Env} {below : List Frame} {s : State} {sargs : Array Value} {y : MethodName} {len W9 : Nat}
theorem vx_backW {ws : List Cond} {rm : Room} {Pc : Array Value → State → Prop} {Qc : Array Value → State → Outcome → State → Prop} {XC : String → State → State → Prop} {mc ms : Nat} {free : Addr → Prop} {bytes : ByteArray} {maxL : Nat} {ret : Option FieldType} {hh : List (Nat × Nat × Nat × Nat)}
    (hM : vx_Met l y ws rm Pc Qc XC mc ms free) (hblind : FrameBlind Pc) (hrc : rm.cells = mc) (hrs : rm.slots = ms)
    (hframes : rm.frames + 1 ≤ R.frames) (hlocals : W9 + (maxL + 11) + rm.locals ≤ R.locals)
    (hws : ∀ w ∈ ws, ∀ a' U, s.WarmedH U.vm → w.before a' U = true) (hcode : Cond.codeWith y bytes maxL ret hh ∈ ws) (hinit : ∀ a' U, s.WarmedH U.vm → (Cond.initialized y.cls).before a' U = true) :
    vx_Back l R p e below s sargs y len W9 (PreOf R mc ms Pc) (PostOf Qc mc ms free) (vx_Post XC mc ms free) := by
  intro m meth c A g ig mk a X hg hsize hdg hW hn hp
  have h1 : (headSpec ws rm).pre.before a A.U = true := atoms_intro fun w hw => hws w hw _ _ X.warmed
  have h2 : (Cond.codeWith y bytes maxL ret hh).before a A.U = true := hws _ hcode _ _ X.warmed
  have h3 : (Cond.initialized y.cls).before a A.U = true := hinit _ _ X.warmed
  have h4 : A.cells + (headSpec ws rm).room.cells ≤ R.cells := by rw [show (headSpec ws rm).room.cells = mc from hrc]; exact hp.1
  have h5 : A.slots + (headSpec ws rm).room.slots ≤ R.slots := by rw [show (headSpec ws rm).room.slots = ms from hrs]; exact hp.2.1
  have hPc : Pc a (A.U.calling g mk a) := hblind _ _ _ _ hp.2.2
  obtain ⟨U, Ls, c0, s0⟩ := A
  dsimp only [Pt.U, Pt.locs, Pt.cells, Pt.slots] at h1 h2 h3 h4 h5 X hn hPc ⊢
  obtain ⟨m9, methY, cY, hn9, hmY, hcY, -, hlY, -⟩ := Cond.codeWith_spec h2
  cases Option.some.inj (hn9.symm.trans hn)
  obtain ⟨kY, hkY, -⟩ := className_of_methodNamed hn
  have hinitY : kY.init = .initialized := Cond.initialized_spec (findClass_of_methodNamed hn) hkY h3
  have h : At U g.method c below := by rw [hg]; exact X.here
  have hlocals9 : W9 + (maxL + 11) + (headSpec ws rm).room.locals ≤ R.locals := hlocals
  have happ : (headSpec ws rm).appliesLoose y e.platform (U.calling g mk a) = true :=
    Spec.appliesLoose_calling (g := g) h hdg hn hkY hinitY
      (X.room_calling (g := g) (R' := (headSpec ws rm).room) hsize hmY hcY hframes (by rw [hlY]; omega) h4 h5) h1
  obtain ⟨mid, hmid⟩ := h.above
  have hfr : (U.setTop g).frames = (.java g :: mid) ++ below := by rw [State.frames_setTop' g h.top, hmid]; rfl
  obtain ⟨o, s₂, hsteps, -, hend, hq⟩ := Steps.callFree hM p X.admits X.cas X.clock (acts := []) hfr happ hPc trivial
  have hq' : vx_Q Qc XC mc ms free a (U.calling g mk a) o s₂ := hq
  rw [State.frames_setTop' g h.top] at hend
  obtain ⟨g₀, hg0⟩ := Option.isSome_iff_exists.mp h.top
  obtain ⟨r, hr⟩ := State.topJava?_eq_some.mp hg0
  have hr' : (({ U with heap := s₂.heap, slotsUsed := s₂.slotsUsed } : State).setVm s₂.vm).frames = .java g₀ :: r := hr
  rcases hq' with ⟨hqc, L, hfe, hL⟩ | ⟨q, rfl, E, ce, L, hx, hce, hcv, hcl, hW₂, hsm, hL⟩
  · obtain ⟨⟨v, rfl⟩, hW₂, e2, q2, q3, q4, q5, q6⟩ := id hfe
    have e3 : s₂ = ({ (U.calling g mk a).setFrames s₂.frames with heap := s₂.heap, slotsUsed := s₂.slotsUsed } : State).setVm s₂.vm := by
      have : s₂ = ({ s₂ with vm := (U.calling g mk a).vm } : State).setVm s₂.vm := rfl
      rw [e2] at this
      exact this
    obtain ⟨c₂, i₂, len₂, hc₂, hd₂, hf₂⟩ := hend
    have hW' : U.WarmedH s₂.vm := hW₂
    have hcc : c₂ = c := by
      have h1 : s₂.code? g.method = U.code? g.method := by
        rw [State.code?_eq, State.code?_eq, hW'.alike.method?]
      exact Option.some.inj (hc₂.symm.trans (h1.trans h.code))
    subst hcc
    have hlen : len₂ = len := by rw [hdg] at hd₂; cases hd₂; rfl
    subst hlen
    have hs₂ : s₂ = (({ U with heap := s₂.heap, slotsUsed := s₂.slotsUsed } : State).setVm s₂.vm).setTop { g with pc := g.pc + len₂, stack := v.toList ++ g.stack } := by
      refine e3.trans ?_
      rw [hf₂, State.calling_eq h.top, State.setFrames_setFrames, State.setTop_of_frames _ hr', hr]
      rfl
    have hsame : U.sameButNew ({ U with heap := s₂.heap, slotsUsed := s₂.slotsUsed } : State) L mc ms := by
      refine ⟨?_, q2, q3, q4, q5, q6⟩
      obtain ⟨t, ht, -⟩ := State.frames_cons hr
      show ({ U with heap := s₂.heap, slotsUsed := s₂.slotsUsed } : State) = { U.setFrames U.frames with heap := s₂.heap, slotsUsed := s₂.slotsUsed }
      rw [State.setFrames_self ht]
    subst hg
    refine Or.inl ⟨v, ⟨(({ U with heap := s₂.heap, slotsUsed := s₂.slotsUsed } : State).setVm s₂.vm), Ls ++ L, c0 + mc, s0 + ms⟩,
      ⟨X.admits, X.cas, X.clock, X.frames, X.room, X.hears, X.method, X.code, (X.here.setHeapUsed s₂.heap s₂.slotsUsed).setVm hW'.alike, X.tail, State.WarmedH.trans X.warmed hW', X.limits, X.bytes, X.same.trans (hsame.setVm s.vm)⟩,
      ⟨g, mk, s₂, L, rfl, rfl, hqc, rfl, hL, rfl, rfl⟩, ?_⟩
    show Steps p.tables e below _ ((({ U with heap := s₂.heap, slotsUsed := s₂.slotsUsed } : State).setVm s₂.vm).setTop { g with pc := g.pc + len₂, stack := v.toList ++ g.stack })
    rw [← hs₂]
    exact hsteps
  · obtain ⟨e2, q2, q3, q4, q5, q6⟩ := id hsm
    have e3 : s₂ = ({ (U.calling g mk a).setFrames s₂.frames with heap := s₂.heap, slotsUsed := s₂.slotsUsed } : State).setVm s₂.vm := by
      have : s₂ = ({ s₂ with vm := (U.calling g mk a).vm } : State).setVm s₂.vm := rfl
      rw [e2] at this
      exact this
    have hf₂ : s₂.frames = .throwing q :: .java g :: U.frames.tail := hend
    have hW' : U.WarmedH s₂.vm := hW₂
    have hs₂ : s₂ = ((({ U with heap := s₂.heap, slotsUsed := s₂.slotsUsed } : State).setVm s₂.vm).setTop g).pushFrame (.throwing q) := by
      refine e3.trans ?_
      rw [hf₂, State.calling_eq h.top, State.setFrames_setFrames, State.pushFrame, State.frames_setTop _ hr', State.setTop_of_frames _ hr', State.setFrames_setFrames, hr]
      rfl
    have hsame : U.sameButNew ({ U with heap := s₂.heap, slotsUsed := s₂.slotsUsed } : State) L mc ms := by
      refine ⟨?_, q2, q3, q4, q5, q6⟩
      obtain ⟨t, ht, -⟩ := State.frames_cons hr
      show ({ U with heap := s₂.heap, slotsUsed := s₂.slotsUsed } : State) = { U.setFrames U.frames with heap := s₂.heap, slotsUsed := s₂.slotsUsed }
      rw [State.setFrames_self ht]
    subst hg
    refine Or.inr ⟨q, ⟨(({ U with heap := s₂.heap, slotsUsed := s₂.slotsUsed } : State).setVm s₂.vm), Ls ++ L, c0 + mc, s0 + ms⟩,
      ⟨X.admits, X.cas, X.clock, X.frames, X.room, X.hears, X.method, X.code, (X.here.setHeapUsed s₂.heap s₂.slotsUsed).setVm hW'.alike, X.tail, State.WarmedH.trans X.warmed hW', X.limits, X.bytes, X.same.trans (hsame.setVm s.vm)⟩,
      ⟨g, mk, s₂, L, E, ce, rfl, rfl, hx, hce, hcv, hcl, rfl, hL, rfl, rfl⟩, ?_⟩
    show Steps p.tables e below _ (((({ U with heap := s₂.heap, slotsUsed := s₂.slotsUsed } : State).setVm s₂.vm).setTop g).pushFrame (.throwing q))
    rw [← hs₂]
    exact hsteps
end
variable {p : Program} {l : Launch} {e : Env} {R : Room} {s : State} {m : MethodId} {args : Array Value} {below : List Frame} {meth : Method} {c : Code} {T : State} {H : Heap} {locs : List Loc} {cells slots : Nat}
theorem vx_callVX (X : Stand p l e R s m args below meth c T locs cells slots) (hexec : p.tables.exec = Jvm.exec) {own C : String} {index : Nat} {y : MethodName} {bytes : ByteArray} {maxL : Nat} {ret : Option FieldType} {hh : List (Nat × Nat × Nat × Nat)}
    (hown : s.vm.findClass own = some m.cls) (hlink : (Cond.methodLink own index y).before args s = true) (hinst : (Cond.instanceMethod y).before args s = true) (hsel : (Cond.selects C y y).before args s = true)
    (hcode : (Cond.codeWith y bytes maxL ret hh).before args s = true) (hy : y.cls ≠ "java/lang/invoke/MethodHandle" ∧ y.cls ≠ "java/lang/invoke/VarHandle")
    {W9 : Nat} {Pre : Pt → Array Value → Prop} {Post : Pt → Array Value → Option Value → Pt → Prop} {PostX : Pt → Array Value → Addr → Pt → Prop} (hK : vx_Back l R p e below s args y 3 W9 Pre Post PostX)
    {b : Addr} {cellB : Cell} (hcell : T.heap[b]? = some cellB) (hobj : cellB.vm.isStatics = false) (hcls : s.vm.findClass C = some cellB.cls)
    {g : JFrame} (hg : g.method = m) (hsize : g.locals.size = c.maxLocals) {argsL rest : List Value} (hlen : ∀ sig, parseMethodDescriptor y.desc = some sig → argsL.length = sig.parameters.length)
    (hstack : g.stack = argsL.reverse ++ .ref b :: rest) (hW : 2 * g.monitorRoom + (rest.map fun v => v.category).sum ≤ W9) (hdg : decode c.code g.pc = .ok (.invokevirtual index, 3))
    (hpre : ∀ vm₁, s.WarmedH vm₁ → Pre ⟨T.setVm vm₁, locs, cells, slots⟩ (Value.ref b :: argsL).toArray) :
    (∃ (v : Option Value) (vm₁ : Vm) (B : Pt), s.WarmedH vm₁ ∧ Stand p l e R s m args below meth c B.U B.locs B.cells B.slots ∧ Post ⟨T.setVm vm₁, locs, cells, slots⟩ (Value.ref b :: argsL).toArray v B ∧
      ∀ target, Steps p.tables e below (B.U.setTop { g with pc := g.pc + 3, stack := v.toList ++ rest }) target → Steps p.tables e below (T.setTop g) target) ∨
    (∃ (q : Addr) (vm₁ : Vm) (B : Pt), s.WarmedH vm₁ ∧ Stand p l e R s m args below meth c B.U B.locs B.cells B.slots ∧ PostX ⟨T.setVm vm₁, locs, cells, slots⟩ (Value.ref b :: argsL).toArray q B ∧
      Steps p.tables e below (T.setTop g) ((B.U.setTop { g with stack := rest }).pushFrame (.throwing q))) := by
  obtain ⟨mk, methM, hnamed, hmethM, hstM, habM⟩ := Cond.instanceMethod_spec hinst
  obtain ⟨m8, methM', cM, hn8, hmethM', -, -, -, -, -, -, hsigM⟩ := Cond.codeWith_spec hcode
  cases Option.some.inj (hn8.symm.trans hnamed)
  cases hmethM.symm.trans hmethM'
  obtain ⟨c2, r2, m2, q1, q2, q3, q4, kP, hkP, hkPi⟩ := Cond.selects_spec hsel
  cases hcls.symm.trans q1
  cases (State.methodFound?_of_named hnamed hy).symm.trans q2
  cases hnamed.symm.trans q3
  have hselP : selectMethod e.platform s.vm cellB.cls mk = .method mk := by rw [Launch.admits_selectMethod X.admits]; exact q4
  obtain ⟨vm₁, X₁, hstep₁⟩ := X.invokevirtual hexec hown hlink hnamed hmethM hstM hkP hkPi hy (a := b) (cell := cellB) hcell
    (fun z h => by rw [h] at hobj; cases hobj) hselP hmethM habM hkP hkPi (g := g) hg (argsL := argsL) (rest := rest) (hlen _ hsigM) hstack hdg
  rcases hK m meth c ⟨T.setVm vm₁, locs, cells, slots⟩ { g with stack := rest } (.invokevirtual index) mk (Value.ref b :: argsL).toArray X₁ hg hsize hdg hW (X₁.named hnamed) (hpre vm₁ X₁.warmed) with ⟨v, B, X', hpost, hsteps⟩ | ⟨q, B, X', hpost, hsteps⟩
  · exact Or.inl ⟨v, vm₁, B, X₁.warmed, X', hpost, fun target h => hstep₁ _ fun acts => by rw [doInvoke_state]; exact hsteps.trans h⟩
  · exact Or.inr ⟨q, vm₁, B, X₁.warmed, X', hpost, hstep₁ _ fun acts => by rw [doInvoke_state]; exact hsteps⟩
theorem vx_callSX (X : Stand p l e R s m args below meth c T locs cells slots) (hexec : p.tables.exec = Jvm.exec) {own : String} {index : Nat} {y : MethodName} {bytes : ByteArray} {maxL : Nat} {ret : Option FieldType} {hh : List (Nat × Nat × Nat × Nat)}
    (hown : s.vm.findClass own = some m.cls) (hlink : (Cond.methodLink own index y).before args s = true) (hstat : (Cond.static y).before args s = true) (hinit : (Cond.initialized y.cls).before args s = true)
    (hcode : (Cond.codeWith y bytes maxL ret hh).before args s = true) (hy : y.cls ≠ "java/lang/invoke/MethodHandle" ∧ y.cls ≠ "java/lang/invoke/VarHandle")
    {W9 : Nat} {Pre : Pt → Array Value → Prop} {Post : Pt → Array Value → Option Value → Pt → Prop} {PostX : Pt → Array Value → Addr → Pt → Prop} (hK : vx_Back l R p e below s args y 3 W9 Pre Post PostX)
    {g : JFrame} (hg : g.method = m) (hsize : g.locals.size = c.maxLocals) {argsL rest : List Value} (hlen : ∀ sig, parseMethodDescriptor y.desc = some sig → argsL.length = sig.parameters.length)
    (hstack : g.stack = argsL.reverse ++ rest) (hW : 2 * g.monitorRoom + (rest.map fun v => v.category).sum ≤ W9) (hdg : decode c.code g.pc = .ok (.invokestatic index, 3))
    (hpre : ∀ vm₁, s.WarmedH vm₁ → Pre ⟨T.setVm vm₁, locs, cells, slots⟩ argsL.toArray) :
    (∃ (v : Option Value) (vm₁ : Vm) (B : Pt), s.WarmedH vm₁ ∧ Stand p l e R s m args below meth c B.U B.locs B.cells B.slots ∧ Post ⟨T.setVm vm₁, locs, cells, slots⟩ argsL.toArray v B ∧
      ∀ target, Steps p.tables e below (B.U.setTop { g with pc := g.pc + 3, stack := v.toList ++ rest }) target → Steps p.tables e below (T.setTop g) target) ∨
    (∃ (q : Addr) (vm₁ : Vm) (B : Pt), s.WarmedH vm₁ ∧ Stand p l e R s m args below meth c B.U B.locs B.cells B.slots ∧ PostX ⟨T.setVm vm₁, locs, cells, slots⟩ argsL.toArray q B ∧
      Steps p.tables e below (T.setTop g) ((B.U.setTop { g with stack := rest }).pushFrame (.throwing q))) := by
  obtain ⟨mk, methM, cM, hnamed, hmethM, -, -, -, -, -, -, hsigM⟩ := Cond.codeWith_spec hcode
  have hstatic : methM.isStatic = true := Cond.static_spec hnamed hmethM hstat
  obtain ⟨kP, hkP, -⟩ := className_of_methodNamed hnamed
  have hinitP : kP.init = .initialized := Cond.initialized_spec (findClass_of_methodNamed hnamed) hkP hinit
  obtain ⟨vm₁, X₁, hstep₁⟩ := X.invokestatic hexec hown hlink hnamed hmethM hstatic hkP hinitP hy (g := g) hg (argsL := argsL) (rest := rest) (hlen _ hsigM) hstack hdg
  rcases hK m meth c ⟨T.setVm vm₁, locs, cells, slots⟩ { g with stack := rest } (.invokestatic index) mk argsL.toArray X₁ hg hsize hdg hW (X₁.named hnamed) (hpre vm₁ X₁.warmed) with ⟨v, B, X', hpost, hsteps⟩ | ⟨q, B, X', hpost, hsteps⟩
  · exact Or.inl ⟨v, vm₁, B, X₁.warmed, X', hpost, fun target h => hstep₁ _ fun acts => by rw [doInvoke_state]; exact hsteps.trans h⟩
  · exact Or.inr ⟨q, vm₁, B, X₁.warmed, X', hpost, hstep₁ _ fun acts => by rw [doInvoke_state]; exact hsteps⟩
theorem vx_callVW (X : Stand p l e R s m args below meth c T locs cells slots) (hexec : p.tables.exec = Jvm.exec) {own C : String} {index : Nat} {y : MethodName} {bytes : ByteArray} {maxL : Nat} {ret : Option FieldType} {hh : List (Nat × Nat × Nat × Nat)}
    (hown : s.vm.findClass own = some m.cls) (hlink : (Cond.methodLink own index y).before args s = true) (hinst : (Cond.instanceMethod y).before args s = true) (hsel : (Cond.selects C y y).before args s = true)
    (hcode : (Cond.codeWith y bytes maxL ret hh).before args s = true) (hy : y.cls ≠ "java/lang/invoke/MethodHandle" ∧ y.cls ≠ "java/lang/invoke/VarHandle")
    {W9 : Nat} {Pre : Pt → Array Value → Prop} {Post : Pt → Array Value → Option Value → Pt → Prop} (hK : Back l R p e below s args y 3 W9 Pre Post)
    {b : Addr} {cellB : Cell} (hcell : T.heap[b]? = some cellB) (hobj : cellB.vm.isStatics = false) (hcls : s.vm.findClass C = some cellB.cls)
    {g : JFrame} (hg : g.method = m) (hsize : g.locals.size = c.maxLocals) {argsL rest : List Value} (hlen : ∀ sig, parseMethodDescriptor y.desc = some sig → argsL.length = sig.parameters.length)
    (hstack : g.stack = argsL.reverse ++ .ref b :: rest) (hW : 2 * g.monitorRoom + (rest.map fun v => v.category).sum ≤ W9) (hdg : decode c.code g.pc = .ok (.invokevirtual index, 3))
    (hpre : ∀ vm₁, s.WarmedH vm₁ → Pre ⟨T.setVm vm₁, locs, cells, slots⟩ (Value.ref b :: argsL).toArray) :
    ∃ (v : Option Value) (vm₁ : Vm) (B : Pt), s.WarmedH vm₁ ∧ Stand p l e R s m args below meth c B.U B.locs B.cells B.slots ∧ Post ⟨T.setVm vm₁, locs, cells, slots⟩ (Value.ref b :: argsL).toArray v B ∧
      ∀ target, Steps p.tables e below (B.U.setTop { g with pc := g.pc + 3, stack := v.toList ++ rest }) target → Steps p.tables e below (T.setTop g) target := by
  obtain ⟨mk, methM, hnamed, hmethM, hstM, habM⟩ := Cond.instanceMethod_spec hinst
  obtain ⟨m8, methM', cM, hn8, hmethM', -, -, -, -, -, -, hsigM⟩ := Cond.codeWith_spec hcode
  cases Option.some.inj (hn8.symm.trans hnamed)
  cases hmethM.symm.trans hmethM'
  obtain ⟨c2, r2, m2, q1, q2, q3, q4, kP, hkP, hkPi⟩ := Cond.selects_spec hsel
  cases hcls.symm.trans q1
  cases (State.methodFound?_of_named hnamed hy).symm.trans q2
  cases hnamed.symm.trans q3
  have hselP : selectMethod e.platform s.vm cellB.cls mk = .method mk := by rw [Launch.admits_selectMethod X.admits]; exact q4
  obtain ⟨vm₁, X₁, hstep₁⟩ := X.invokevirtual hexec hown hlink hnamed hmethM hstM hkP hkPi hy (a := b) (cell := cellB) hcell
    (fun z h => by rw [h] at hobj; cases hobj) hselP hmethM habM hkP hkPi (g := g) hg (argsL := argsL) (rest := rest) (hlen _ hsigM) hstack hdg
  obtain ⟨v, B, X', hpost, hsteps⟩ := hK m meth c ⟨T.setVm vm₁, locs, cells, slots⟩ { g with stack := rest } (.invokevirtual index) mk (Value.ref b :: argsL).toArray X₁ hg hsize hdg hW (X₁.named hnamed) (hpre vm₁ X₁.warmed)
  exact ⟨v, vm₁, B, X₁.warmed, X', hpost, fun target h => hstep₁ _ fun acts => by rw [doInvoke_state]; exact hsteps.trans h⟩
abbrev vx_CVW (R : Room) (s : State) (args : Array Value) (own C : String) (index : Nat) (y : MethodName) (bytes : ByteArray) (maxL : Nat) (ret : Option FieldType) (hh : List (Nat × Nat × Nat × Nat)) (ws : List Cond) (rm : Room) (mc ms n : Nat) : Prop :=
  (rm.cells = mc ∧ rm.slots = ms ∧ rm.frames + 1 ≤ R.frames ∧ 8 + (maxL + 11) + rm.locals ≤ R.locals ∧ (∀ w ∈ ws, ∀ (a' : Array Value) (U : State), s.WarmedH U.vm → w.before a' U = true) ∧ Cond.codeWith y bytes maxL ret hh ∈ ws) ∧
  (Cond.codeWith y bytes maxL ret hh).before args s = true ∧ (Cond.initialized y.cls).before args s = true ∧ (y.cls ≠ "java/lang/invoke/MethodHandle" ∧ y.cls ≠ "java/lang/invoke/VarHandle") ∧
  (∀ sig, parseMethodDescriptor y.desc = some sig → n = sig.parameters.length) ∧ (Cond.methodLink own index y).before args s = true ∧ (Cond.instanceMethod y).before args s = true ∧ (Cond.selects C y y).before args s = true
theorem vx_cwVW {own C : String} {index maxL mc ms : Nat} {y : MethodName} {bytes : ByteArray} {ret : Option FieldType} {hh : List (Nat × Nat × Nat × Nat)} {Ts ws ws' : List Cond} {rm : Room} (n : Nat) (ht : ∀ w ∈ Ts, w.before args s = true) (hT : GoodIn Ts (wsV own index C y ws)) (hw : ws = Cond.codeWith y bytes maxL ret hh :: ws') (hrc : rm.cells = mc) (hrs : rm.slots = ms)
    (hd : y.cls = C ∧ y.cls ≠ "java/lang/invoke/MethodHandle" ∧ y.cls ≠ "java/lang/invoke/VarHandle" ∧ (parseMethodDescriptor y.desc).map (fun d => d.parameters.length) = some n) (hR : rm.frames + 1 ≤ R.frames ∧ 8 + (maxL + 11) + rm.locals ≤ R.locals) :
    vx_CVW R s args own C index y bytes maxL ret hh ws rm mc ms n := by
  obtain ⟨hC, hd⟩ := hd
  subst hC
  have ok : ∀ w ∈ wsV own index y.cls y ws, w.before args s = true := fun w h => ht w (hT w h).1
  have hG : GoodIn Ts ws := fun w h => hT w (by unfold wsV; exact List.mem_append_right _ h)
  have hc : Cond.codeWith y bytes maxL ret hh ∈ ws := by rw [hw]; exact List.mem_cons_self
  refine ⟨⟨hrc, hrs, hR.1, hR.2, pay_in ht hG, hc⟩, ht _ (hG _ hc).1, ok _ (by simp [wsV]), ⟨hd.1, hd.2.1⟩, fun sig h => ?_, ok _ (by simp [wsV]), ok _ (by simp [wsV]), ok _ (by simp [wsV])⟩
  have h2 := hd.2.2
  rw [h] at h2
  exact (Option.some.inj h2).symm
theorem vx_runVW {y : MethodName} {bytes cc : ByteArray} {maxL nL mc ms n index : Nat} {ret : Option FieldType} {hh : List (Nat × Nat × Nat × Nat)} {ws : List Cond} {rm : Room} {Pc : Array Value → State → Prop} {Qc : Array Value → State → Outcome → State → Prop} {free : Addr → Prop} {Ts : List Cond} {own C : String} {b : Addr} {As rest : List Value} {g : JFrame}
    (S : CallFix p m c cc nL s args Ts own) (hM : Met l y ws rm Pc Qc mc ms free) (cw : vx_CVW R s args own C index y bytes maxL ret hh ws rm mc ms n) (hp : PreV s H C b Pc As)
    (hg : g.method = m) (hn : As.length = n) (hsize : g.locals.size = nL) (hstack : g.stack = As.reverse ++ .ref b :: rest) (hW : 2 * g.monitorRoom + (rest.map fun v => v.category).sum ≤ 8) (hdg : decode cc g.pc = .ok (.invokevirtual index, 3)) (hf : cells + mc ≤ R.cells ∧ slots + ms ≤ R.slots) :
    va_Run p l e R s m args below meth c H locs cells slots mc ms g rest (Qc (Value.ref b :: As).toArray) free := by
  obtain ⟨⟨hrc, hrs, hfr, hlo, hws, hcw⟩, hcode, hini, hy, hlen, hl, hin, hse⟩ := cw
  have hK : Back l R p e below s args y 3 8 (PreOf R mc ms Pc) (PostOf Qc mc ms free) := va_backW (hh := hh) (bytes := bytes) (maxL := maxL) (ret := ret) hM hp.1 hrc hrs hfr hlo hws hcw (fun a' U hW => word_at hW (Or.inl (by first | rfl | simp [Cond.onTables, Cond.keeps, Cond.steady])) hini)
  obtain ⟨hx, hb, hml, ho, -⟩ := S
  obtain ⟨-, ⟨cellB, hcB, hoB, hclB⟩, hPc⟩ := hp
  intro T hT X
  obtain ⟨v, vm₁, ⟨U', l2, c2, s2⟩, hW₁, X', ⟨g', mk, t, L, e1, e2, hq, h1, hL, h2, h3⟩, st⟩ := vx_callVW X hx (C := C) (hh := hh) (bytes := bytes) (maxL := maxL) (ret := ret) ho hl hin hse hcode hy hK (by rw [hT]; exact hcB) hoB hclB hg (hsize.trans hml.symm) (argsL := As) (rest := rest) (fun sig h => hn.trans (hlen sig h)) hstack hW (by rw [hb]; exact hdg)
    (fun vm₁ hW₁ => ⟨hf.1, hf.2, hPc (T.setVm vm₁) hT hW₁⟩)
  dsimp only [Pt.U, Pt.locs, Pt.cells, Pt.slots] at X' e1 e2 h1 h2 h3 st
  subst h1; subst h2; subst h3
  exact ⟨v, (T.setVm vm₁).calling g' mk (Value.ref b :: As).toArray, t, U', L, hT, X', hL, e1, e2, hq, st⟩
section
variable {y : MethodName} {bytes cc : ByteArray} {maxL nL mc ms n index : Nat} {ret : Option FieldType} {ws : List Cond} {rm : Room} {Pc : Array Value → State → Prop} {Qc : Array Value → State → Outcome → State → Prop} {XC : String → State → State → Prop} {free : Addr → Prop} {Ts : List Cond} {own C : String} {b : Addr} {As rest : List Value} {g : JFrame}
theorem vx_runVX {hh : List (Nat × Nat × Nat × Nat)} (S : CallFix p m c cc nL s args Ts own) (hM : vx_Met l y ws rm Pc Qc XC mc ms free) (cw : vx_CVW R s args own C index y bytes maxL ret hh ws rm mc ms n) (hp : PreV s H C b Pc As)
    (hg : g.method = m) (hn : As.length = n) (hsize : g.locals.size = nL) (hstack : g.stack = As.reverse ++ .ref b :: rest) (hW : 2 * g.monitorRoom + (rest.map fun v => v.category).sum ≤ 8) (hdg : decode cc g.pc = .ok (.invokevirtual index, 3)) (hf : cells + mc ≤ R.cells ∧ slots + ms ≤ R.slots) :
    vx_Run p l e R s m args below meth c H locs cells slots mc ms g rest (Qc (Value.ref b :: As).toArray) XC free := by
  obtain ⟨⟨hrc, hrs, hfr, hlo, hws, hcw⟩, hcode, hini, hy, hlen, hl, hin, hse⟩ := cw
  have hK : vx_Back l R p e below s args y 3 8 (PreOf R mc ms Pc) (PostOf Qc mc ms free) (vx_Post XC mc ms free) := vx_backW (hh := hh) (bytes := bytes) (maxL := maxL) (ret := ret) hM hp.1 hrc hrs hfr hlo hws hcw (fun a' U hW => word_at hW (Or.inl (by first | rfl | simp [Cond.onTables, Cond.keeps, Cond.steady])) hini)
  obtain ⟨hx, hb, hml, ho, -⟩ := S
  obtain ⟨-, ⟨cellB, hcB, hoB, hclB⟩, hPc⟩ := hp
  intro T hT X
  rcases vx_callVX X hx (C := C) (hh := hh) (bytes := bytes) (maxL := maxL) (ret := ret) ho hl hin hse hcode hy hK (by rw [hT]; exact hcB) hoB hclB hg (hsize.trans hml.symm) (argsL := As) (rest := rest) (fun sig h => hn.trans (hlen sig h)) hstack hW (by rw [hb]; exact hdg)
    (fun vm₁ hW₁ => ⟨hf.1, hf.2, hPc (T.setVm vm₁) hT hW₁⟩) with ⟨v, vm₁, ⟨U', l2, c2, s2⟩, hW₁, X', ⟨g', mk, t, L, e1, e2, hq, h1, hL, h2, h3⟩, st⟩ | ⟨q, vm₁, ⟨U', l2, c2, s2⟩, hW₁, X', ⟨g', mk, t, L, E, ce, e1, e2, hq, hce, hcv, hcl, h1, hL, h2, h3⟩, st⟩
  · dsimp only [Pt.U, Pt.locs, Pt.cells, Pt.slots] at X' e1 e2 h1 h2 h3 st
    subst h1; subst h2; subst h3
    exact Or.inl ⟨v, (T.setVm vm₁).calling g' mk (Value.ref b :: As).toArray, t, U', L, hT, X', hL, e1, e2, hq, st⟩
  · dsimp only [Pt.U, Pt.locs, Pt.cells, Pt.slots] at X' e1 e2 h1 h2 h3 st hcl
    subst h1; subst h2; subst h3
    exact Or.inr ⟨q, (T.setVm vm₁).calling g' mk (Value.ref b :: As).toArray, t, U', L, E, ce, hT, X', hL, e1, e2, hq, hce, hcv, vx_cls hW₁ hcl, st⟩
theorem vx_runSX {hh : List (Nat × Nat × Nat × Nat)} (S : CallFix p m c cc nL s args Ts own) (hM : vx_Met l y ws rm Pc Qc XC mc ms free) (cw : vx_CSW R s args own index y bytes maxL ret hh ws rm mc ms n) (hp : PreS s H Pc As)
    (hg : g.method = m) (hn : As.length = n) (hsize : g.locals.size = nL) (hstack : g.stack = As.reverse ++ rest) (hW : 2 * g.monitorRoom + (rest.map fun v => v.category).sum ≤ 8) (hdg : decode cc g.pc = .ok (.invokestatic index, 3)) (hf : cells + mc ≤ R.cells ∧ slots + ms ≤ R.slots) :
    vx_Run p l e R s m args below meth c H locs cells slots mc ms g rest (Qc As.toArray) XC free := by
  obtain ⟨⟨hrc, hrs, hfr, hlo, hws, hcw⟩, hcode, hini, hy, hlen, hl, hstt⟩ := cw
  have hK : vx_Back l R p e below s args y 3 8 (PreOf R mc ms Pc) (PostOf Qc mc ms free) (vx_Post XC mc ms free) := vx_backW (hh := hh) (bytes := bytes) (maxL := maxL) (ret := ret) hM hp.1 hrc hrs hfr hlo hws hcw (fun a' U hW => word_at hW (Or.inl (by first | rfl | simp [Cond.onTables, Cond.keeps, Cond.steady])) hini)
  obtain ⟨hx, hb, hml, ho, -⟩ := S
  intro T hT X
  rcases vx_callSX X hx (hh := hh) (bytes := bytes) (maxL := maxL) (ret := ret) ho hl hstt hini hcode hy hK hg (hsize.trans hml.symm) (argsL := As) (rest := rest) (fun sig h => hn.trans (hlen sig h)) hstack hW (by rw [hb]; exact hdg)
    (fun vm₁ hW₁ => ⟨hf.1, hf.2, hp.2 (T.setVm vm₁) hT hW₁⟩) with ⟨v, vm₁, ⟨U', l2, c2, s2⟩, hW₁, X', ⟨g', mk, t, L, e1, e2, hq, h1, hL, h2, h3⟩, st⟩ | ⟨q, vm₁, ⟨U', l2, c2, s2⟩, hW₁, X', ⟨g', mk, t, L, E, ce, e1, e2, hq, hce, hcv, hcl, h1, hL, h2, h3⟩, st⟩
  · dsimp only [Pt.U, Pt.locs, Pt.cells, Pt.slots] at X' e1 e2 h1 h2 h3 st
    subst h1; subst h2; subst h3
    exact Or.inl ⟨v, (T.setVm vm₁).calling g' mk As.toArray, t, U', L, hT, X', hL, e1, e2, hq, st⟩
  · dsimp only [Pt.U, Pt.locs, Pt.cells, Pt.slots] at X' e1 e2 h1 h2 h3 st hcl
    subst h1; subst h2; subst h3
    exact Or.inr ⟨q, (T.setVm vm₁).calling g' mk As.toArray, t, U', L, E, ce, hT, X', hL, e1, e2, hq, hce, hcv, vx_cls hW₁ hcl, st⟩
end
end VXH
theorem vx_ofWH {l : Launch} {y : MethodName} {ws ws' : List Cond} {rm : Room} {Pc : Array Value → State → Prop} {Qc : Array Value → State → Outcome → State → Prop} {XC : String → State → State → Prop} {mc ms : Nat} {free : Addr → Prop} {cc : ByteArray} {maxL : Nat} {ret : Option FieldType} {hh : List (Nat × Nat × Nat × Nat)}
    (hy : plainName y.cls = true) (hw : ws = Cond.codeWith y cc maxL ret hh :: ws')
    (body : ∀ p e s m args below meth c s₁, BodyLoose p l y (headSpec ws rm) cc maxL ret e s m args below meth c s₁ → c.maxLocals = maxL → Pc args s →
      W p l e (headSpec ws rm).room s m args below meth c s.heap [] 0 0 (vx_MQ below Qc XC args s mc ms free) (entryFrame m args maxL)) : vx_Met l y ws rm Pc Qc XC mc ms free := by
  refine MetFree.of_bodyS (code := cc) (maxLocals := maxL) (ret := ret) hy ?_ ?_
  · intro args s m h hn
    obtain ⟨m9, meth, c, hn9, h1, h2, h3, h4, -, h5, h6, -⟩ := Cond.codeWith_spec (atoms_spec (ws := ws) h _ (by rw [hw]; exact List.mem_cons_self))
    cases hn.symm.trans hn9
    exact ⟨meth, c, h1, h2, h3, h4, h5, h6⟩
  · intro p e s m args below meth c s₁ B hml hP _
    have hh0 : s₁.heap = s.heap := by rw [B.state]; rfl
    obtain ⟨t, a1, o, b1, b2, b3⟩ := body p e s m args below meth c s₁ B hml hP s₁ hh0 (Stand.of_body B)
    exact ⟨t, o, a1, b1, b2, b3⟩
/-! ===== END ===== -/
end
section
def RX0 : String := "InventedBirthdays$History"
def TX0 : u_T := fun k => match k with
  | 0 => ("InventedBirthdays$History", "states", "[LInventedBirthdays$Registry;", true)
  | 1 => ("InventedBirthdays$History", "next", "I", false)
  | _ => ("InventedBirthdays$History", "count", "I", false)
def tyX0 : Nat → FieldType := fun k => match k with
  | 0 => .array (.object "InventedBirthdays$Registry")
  | 1 => .int
  | _ => .int
theorem nmX0 : ∀ a, a < 3 → ∀ b, b < 3 → a ≠ b → (TX0 a).2.1 ≠ (TX0 b).2.1 := by decide +kernel
theorem tyX0_ok : ∀ k, k < 3 → parseFieldDescriptor (TX0 k).2.2.1 = some (tyX0 k) := by decide +kernel
abbrev cX0_init : ByteArray := prog_2_method_1_code
def yX0_init : MethodName := ⟨RX0, "<init>", "()V"⟩
abbrev cX0_forgetAll : ByteArray := prog_2_method_2_code
def yX0_forgetAll : MethodName := ⟨RX0, "forgetAll", "()V"⟩
abbrev cX0_record : ByteArray := prog_2_method_3_code
def yX0_record : MethodName := ⟨RX0, "record", "(LInventedBirthdays$Registry;)V"⟩
abbrev cX0_takeBack : ByteArray := prog_2_method_4_code
def yX0_takeBack : MethodName := ⟨RX0, "takeBack", "(LInventedBirthdays$Registry;)V"⟩
abbrev cX0_stateAt : ByteArray := prog_2_method_5_code
def yX0_stateAt : MethodName := ⟨RX0, "stateAt", "(I)LInventedBirthdays$Registry;"⟩
def RX1 : String := "InventedBirthdays$Parser"
def TX1 : u_T := fun k => match k with
  | 0 => ("InventedBirthdays$Parser", "result", "LInventedBirthdays$Registry;", true)
  | 1 => ("InventedBirthdays$Parser", "bufferLength", "I", false)
  | 2 => ("InventedBirthdays$Parser", "faultKind", "I", false)
  | 3 => ("InventedBirthdays$Parser", "faultOffset", "I", false)
  | 4 => ("InventedBirthdays$Parser", "buffer", "[B", true)
  | 5 => ("InventedBirthdays$Parser", "length", "I", false)
  | 6 => ("InventedBirthdays$Parser", "token", "I", false)
  | 7 => ("InventedBirthdays$Parser", "tokenStart", "I", false)
  | _ => ("InventedBirthdays$Parser", "tokenEnd", "I", false)
def tyX1 : Nat → FieldType := fun k => match k with
  | 0 => .object "InventedBirthdays$Registry"
  | 1 => .int
  | 2 => .int
  | 3 => .int
  | 4 => .array .byte
  | 5 => .int
  | 6 => .int
  | 7 => .int
  | _ => .int
theorem nmX1 : ∀ a, a < 9 → ∀ b, b < 9 → a ≠ b → (TX1 a).2.1 ≠ (TX1 b).2.1 := by decide +kernel
theorem tyX1_ok : ∀ k, k < 9 → parseFieldDescriptor (TX1 k).2.2.1 = some (tyX1 k) := by decide +kernel
abbrev cX1_init : ByteArray := prog_3_method_1_code
def yX1_init : MethodName := ⟨RX1, "<init>", "()V"⟩
abbrev cX1_addByte : ByteArray := prog_3_method_2_code
def yX1_addByte : MethodName := ⟨RX1, "addByte", "(I)V"⟩
abbrev cX1_emptyBuffer : ByteArray := prog_3_method_3_code
def yX1_emptyBuffer : MethodName := ⟨RX1, "emptyBuffer", "()V"⟩
abbrev cX1_parse : ByteArray := prog_3_method_4_code
def yX1_parse : MethodName := ⟨RX1, "parse", "(I)V"⟩
abbrev cX1_readHead : ByteArray := prog_3_method_5_code
def yX1_readHead : MethodName := ⟨RX1, "readHead", "()V"⟩
abbrev cX1_nextIsLine : ByteArray := prog_3_method_6_code
def yX1_nextIsLine : MethodName := ⟨RX1, "nextIsLine", "()Z"⟩
abbrev cX1_readGarden : ByteArray := prog_3_method_7_code
def yX1_readGarden : MethodName := ⟨RX1, "readGarden", "()V"⟩
abbrev cX1_readChild : ByteArray := prog_3_method_8_code
def yX1_readChild : MethodName := ⟨RX1, "readChild", "()V"⟩
abbrev cX1_readBirthday : ByteArray := prog_3_method_9_code
def yX1_readBirthday : MethodName := ⟨RX1, "readBirthday", "()V"⟩
abbrev cX1_readDraw : ByteArray := prog_3_method_10_code
def yX1_readDraw : MethodName := ⟨RX1, "readDraw", "()V"⟩
abbrev cX1_readCakes : ByteArray := prog_3_method_11_code
def yX1_readCakes : MethodName := ⟨RX1, "readCakes", "()V"⟩
abbrev cX1_readDays : ByteArray := prog_3_method_12_code
def yX1_readDays : MethodName := ⟨RX1, "readDays", "()V"⟩
abbrev cX1_readKnownChild : ByteArray := prog_3_method_13_code
def yX1_readKnownChild : MethodName := ⟨RX1, "readKnownChild", "()I"⟩
abbrev cX1_readName : ByteArray := prog_3_method_14_code
def yX1_readName : MethodName := ⟨RX1, "readName", "()I"⟩
abbrev cX1_readNumber : ByteArray := prog_3_method_15_code
def yX1_readNumber : MethodName := ⟨RX1, "readNumber", "(II)I"⟩
abbrev cX1_fail : ByteArray := prog_3_method_16_code
def yX1_fail : MethodName := ⟨RX1, "fail", "(I)V"⟩
abbrev cX1_readToken : ByteArray := prog_3_method_17_code
def yX1_readToken : MethodName := ⟨RX1, "readToken", "()V"⟩
abbrev cX1_isRun : ByteArray := prog_3_method_18_code
def yX1_isRun : MethodName := ⟨RX1, "isRun", "(I)Z"⟩
abbrev cX1_classAt : ByteArray := prog_3_method_19_code
def yX1_classAt : MethodName := ⟨RX1, "classAt", "(I)I"⟩
abbrev cX1_tokenIs : ByteArray := prog_3_method_20_code
def yX1_tokenIs : MethodName := ⟨RX1, "tokenIs", "(Ljava/lang/String;)Z"⟩
abbrev cX1_byteAt : ByteArray := prog_3_method_21_code
def yX1_byteAt : MethodName := ⟨RX1, "byteAt", "(I)I"⟩
def RX2 : String := "InventedBirthdays$Registry"
def TX2 : u_T := fun k => match k with
  | 0 => ("InventedBirthdays$Registry", "year", "I", false)
  | 1 => ("InventedBirthdays$Registry", "date", "I", false)
  | 2 => ("InventedBirthdays$Registry", "seed", "I", false)
  | 3 => ("InventedBirthdays$Registry", "candles", "I", false)
  | 4 => ("InventedBirthdays$Registry", "firstCandles", "I", false)
  | 5 => ("InventedBirthdays$Registry", "boughtCandles", "I", false)
  | 6 => ("InventedBirthdays$Registry", "litCandles", "I", false)
  | 7 => ("InventedBirthdays$Registry", "failedParties", "I", false)
  | 8 => ("InventedBirthdays$Registry", "gardens", "I", false)
  | 9 => ("InventedBirthdays$Registry", "children", "I", false)
  | 10 => ("InventedBirthdays$Registry", "cakeStock", "[I", true)
  | 11 => ("InventedBirthdays$Registry", "seats", "[I", true)
  | 12 => ("InventedBirthdays$Registry", "names", "[I", true)
  | 13 => ("InventedBirthdays$Registry", "favourites", "[I", true)
  | 14 => ("InventedBirthdays$Registry", "breaths", "[I", true)
  | 15 => ("InventedBirthdays$Registry", "ages", "[I", true)
  | 16 => ("InventedBirthdays$Registry", "homes", "[I", true)
  | 17 => ("InventedBirthdays$Registry", "birthdays", "[I", true)
  | 18 => ("InventedBirthdays$Registry", "parties", "[I", true)
  | _ => ("InventedBirthdays$Registry", "wishes", "[I", true)
def tyX2 : Nat → FieldType := fun k => match k with
  | 0 => .int
  | 1 => .int
  | 2 => .int
  | 3 => .int
  | 4 => .int
  | 5 => .int
  | 6 => .int
  | 7 => .int
  | 8 => .int
  | 9 => .int
  | 10 => .array .int
  | 11 => .array .int
  | 12 => .array .int
  | 13 => .array .int
  | 14 => .array .int
  | 15 => .array .int
  | 16 => .array .int
  | 17 => .array .int
  | 18 => .array .int
  | _ => .array .int
theorem nmX2 : ∀ a, a < 20 → ∀ b, b < 20 → a ≠ b → (TX2 a).2.1 ≠ (TX2 b).2.1 := by decide +kernel
theorem tyX2_ok : ∀ k, k < 20 → parseFieldDescriptor (TX2 k).2.2.1 = some (tyX2 k) := by decide +kernel
abbrev cX2_init : ByteArray := prog_4_method_1_code
def yX2_init : MethodName := ⟨RX2, "<init>", "()V"⟩
abbrev cX2_begin : ByteArray := prog_4_method_2_code
def yX2_begin : MethodName := ⟨RX2, "begin", "(II)V"⟩
abbrev cX2_copyFrom : ByteArray := prog_4_method_3_code
def yX2_copyFrom : MethodName := ⟨RX2, "copyFrom", "(LInventedBirthdays$Registry;)V"⟩
abbrev cX2_addGarden : ByteArray := prog_4_method_4_code
def yX2_addGarden : MethodName := ⟨RX2, "addGarden", "(I)V"⟩
abbrev cX2_addChild : ByteArray := prog_4_method_5_code
def yX2_addChild : MethodName := ⟨RX2, "addChild", "(IIIII)V"⟩
abbrev cX2_childNamed : ByteArray := prog_4_method_6_code
def yX2_childNamed : MethodName := ⟨RX2, "childNamed", "(I)I"⟩
abbrev cX2_countFans : ByteArray := prog_4_method_7_code
def yX2_countFans : MethodName := ⟨RX2, "countFans", "(I)I"⟩
abbrev cX2_daysUntil : ByteArray := prog_4_method_8_code
def yX2_daysUntil : MethodName := ⟨RX2, "daysUntil", "(I)I"⟩
abbrev cX2_daysLeft : ByteArray := prog_4_method_9_code
def yX2_daysLeft : MethodName := ⟨RX2, "daysLeft", "()I"⟩
abbrev cX2_reasonAgainst : ByteArray := prog_4_method_10_code
def yX2_reasonAgainst : MethodName := ⟨RX2, "reasonAgainst", "(III)I"⟩
abbrev cX2_countDraws : ByteArray := prog_4_method_11_code
def yX2_countDraws : MethodName := ⟨RX2, "countDraws", "(I)I"⟩
abbrev cX2_drawBirthday : ByteArray := prog_4_method_12_code
def yX2_drawBirthday : MethodName := ⟨RX2, "drawBirthday", "(II)V"⟩
abbrev cX2_pass : ByteArray := prog_4_method_13_code
def yX2_pass : MethodName := ⟨RX2, "pass", "(I)I"⟩
abbrev cX2_beginNextDate : ByteArray := prog_4_method_14_code
def yX2_beginNextDate : MethodName := ⟨RX2, "beginNextDate", "()V"⟩
abbrev cX2_celebrate : ByteArray := prog_4_method_15_code
def yX2_celebrate : MethodName := ⟨RX2, "celebrate", "(I)Z"⟩
abbrev cX2_cakeFor : ByteArray := prog_4_method_16_code
def yX2_cakeFor : MethodName := ⟨RX2, "cakeFor", "(I)I"⟩
abbrev cX2_partyStrength : ByteArray := prog_4_method_17_code
def yX2_partyStrength : MethodName := ⟨RX2, "partyStrength", "(II)I"⟩
def RX3 : String := "InventedBirthdays"
def TX3 : u_T := fun k => match k with
  | 0 => ("InventedBirthdays", "output", "[B", true)
  | 1 => ("InventedBirthdays", "outputLength", "I", false)
  | 2 => ("InventedBirthdays", "reportedKind", "I", false)
  | 3 => ("InventedBirthdays", "reportedOffset", "I", false)
  | 4 => ("InventedBirthdays", "now", "LInventedBirthdays$Registry;", true)
  | 5 => ("InventedBirthdays", "forecast", "LInventedBirthdays$Registry;", true)
  | 6 => ("InventedBirthdays", "parser", "LInventedBirthdays$Parser;", true)
  | 7 => ("InventedBirthdays", "history", "LInventedBirthdays$History;", true)
  | 8 => ("InventedBirthdays", "saved", "[LInventedBirthdays$Registry;", true)
  | _ => ("InventedBirthdays", "isSaved", "[Z", true)
def tyX3 : Nat → FieldType := fun k => match k with
  | 0 => .array .byte
  | 1 => .int
  | 2 => .int
  | 3 => .int
  | 4 => .object "InventedBirthdays$Registry"
  | 5 => .object "InventedBirthdays$Registry"
  | 6 => .object "InventedBirthdays$Parser"
  | 7 => .object "InventedBirthdays$History"
  | 8 => .array (.object "InventedBirthdays$Registry")
  | _ => .array .boolean
theorem nmX3 : ∀ a, a < 10 → ∀ b, b < 10 → a ≠ b → (TX3 a).2.1 ≠ (TX3 b).2.1 := by decide +kernel
theorem tyX3_ok : ∀ k, k < 10 → parseFieldDescriptor (TX3 k).2.2.1 = some (tyX3 k) := by decide +kernel
abbrev cX3_init : ByteArray := prog_1_method_1_code
def yX3_init : MethodName := ⟨RX3, "<init>", "()V"⟩
abbrev cX3_append : ByteArray := prog_1_method_2_code
def yX3_append : MethodName := ⟨RX3, "append", "(IIIII)I"⟩
abbrev cX3_appendFour : ByteArray := prog_1_method_3_code
def yX3_appendFour : MethodName := ⟨RX3, "appendFour", "(I)V"⟩
abbrev cX3_load : ByteArray := prog_1_method_4_code
def yX3_load : MethodName := ⟨RX3, "load", "(I)I"⟩
abbrev cX3_errorKind : ByteArray := prog_1_method_5_code
def yX3_errorKind : MethodName := ⟨RX3, "errorKind", "()I"⟩
abbrev cX3_errorOffset : ByteArray := prog_1_method_6_code
def yX3_errorOffset : MethodName := ⟨RX3, "errorOffset", "()I"⟩
abbrev cX3_year : ByteArray := prog_1_method_7_code
def yX3_year : MethodName := ⟨RX3, "year", "()I"⟩
abbrev cX3_month : ByteArray := prog_1_method_8_code
def yX3_month : MethodName := ⟨RX3, "month", "()I"⟩
abbrev cX3_dayOfMonth : ByteArray := prog_1_method_9_code
def yX3_dayOfMonth : MethodName := ⟨RX3, "dayOfMonth", "()I"⟩
abbrev cX3_seed : ByteArray := prog_1_method_10_code
def yX3_seed : MethodName := ⟨RX3, "seed", "()I"⟩
abbrev cX3_nextDraw : ByteArray := prog_1_method_11_code
def yX3_nextDraw : MethodName := ⟨RX3, "nextDraw", "()I"⟩
abbrev cX3_candles : ByteArray := prog_1_method_12_code
def yX3_candles : MethodName := ⟨RX3, "candles", "()I"⟩
abbrev cX3_cakes : ByteArray := prog_1_method_13_code
def yX3_cakes : MethodName := ⟨RX3, "cakes", "(I)I"⟩
abbrev cX3_mostWantedCake : ByteArray := prog_1_method_14_code
def yX3_mostWantedCake : MethodName := ⟨RX3, "mostWantedCake", "()I"⟩
abbrev cX3_gardenCount : ByteArray := prog_1_method_15_code
def yX3_gardenCount : MethodName := ⟨RX3, "gardenCount", "()I"⟩
abbrev cX3_seatsOf : ByteArray := prog_1_method_16_code
def yX3_seatsOf : MethodName := ⟨RX3, "seatsOf", "(I)I"⟩
abbrev cX3_childrenOf : ByteArray := prog_1_method_17_code
def yX3_childrenOf : MethodName := ⟨RX3, "childrenOf", "(I)I"⟩
abbrev cX3_partyIn : ByteArray := prog_1_method_18_code
def yX3_partyIn : MethodName := ⟨RX3, "partyIn", "(III)I"⟩
abbrev cX3_childCount : ByteArray := prog_1_method_19_code
def yX3_childCount : MethodName := ⟨RX3, "childCount", "()I"⟩
abbrev cX3_cakeOf : ByteArray := prog_1_method_20_code
def yX3_cakeOf : MethodName := ⟨RX3, "cakeOf", "(I)I"⟩
abbrev cX3_breathOf : ByteArray := prog_1_method_21_code
def yX3_breathOf : MethodName := ⟨RX3, "breathOf", "(I)I"⟩
abbrev cX3_ageOf : ByteArray := prog_1_method_22_code
def yX3_ageOf : MethodName := ⟨RX3, "ageOf", "(I)I"⟩
abbrev cX3_gardenOf : ByteArray := prog_1_method_23_code
def yX3_gardenOf : MethodName := ⟨RX3, "gardenOf", "(I)I"⟩
abbrev cX3_birthdayOf : ByteArray := prog_1_method_24_code
def yX3_birthdayOf : MethodName := ⟨RX3, "birthdayOf", "(I)I"⟩
abbrev cX3_daysUntilBirthday : ByteArray := prog_1_method_25_code
def yX3_daysUntilBirthday : MethodName := ⟨RX3, "daysUntilBirthday", "(I)I"⟩
abbrev cX3_partiesOf : ByteArray := prog_1_method_26_code
def yX3_partiesOf : MethodName := ⟨RX3, "partiesOf", "(I)I"⟩
abbrev cX3_wishesOf : ByteArray := prog_1_method_27_code
def yX3_wishesOf : MethodName := ⟨RX3, "wishesOf", "(I)I"⟩
abbrev cX3_strengthOf : ByteArray := prog_1_method_28_code
def yX3_strengthOf : MethodName := ⟨RX3, "strengthOf", "(I)I"⟩
abbrev cX3_nextChild : ByteArray := prog_1_method_29_code
def yX3_nextChild : MethodName := ⟨RX3, "nextChild", "()I"⟩
abbrev cX3_childrenOn : ByteArray := prog_1_method_30_code
def yX3_childrenOn : MethodName := ⟨RX3, "childrenOn", "(II)I"⟩
abbrev cX3_differentDates : ByteArray := prog_1_method_31_code
def yX3_differentDates : MethodName := ⟨RX3, "differentDates", "()I"⟩
abbrev cX3_dateAt : ByteArray := prog_1_method_32_code
def yX3_dateAt : MethodName := ⟨RX3, "dateAt", "(I)I"⟩
abbrev cX3_isFirstWithItsDate : ByteArray := prog_1_method_33_code
def yX3_isFirstWithItsDate : MethodName := ⟨RX3, "isFirstWithItsDate", "(I)Z"⟩
abbrev cX3_busiestMonth : ByteArray := prog_1_method_34_code
def yX3_busiestMonth : MethodName := ⟨RX3, "busiestMonth", "()I"⟩
abbrev cX3_countBirthdaysIn : ByteArray := prog_1_method_35_code
def yX3_countBirthdaysIn : MethodName := ⟨RX3, "countBirthdaysIn", "(I)I"⟩
abbrev cX3_obstacle : ByteArray := prog_1_method_36_code
def yX3_obstacle : MethodName := ⟨RX3, "obstacle", "(IIII)I"⟩
abbrev cX3_freeGarden : ByteArray := prog_1_method_37_code
def yX3_freeGarden : MethodName := ⟨RX3, "freeGarden", "(III)I"⟩
abbrev cX3_drawsNeeded : ByteArray := prog_1_method_38_code
def yX3_drawsNeeded : MethodName := ⟨RX3, "drawsNeeded", "(I)I"⟩
abbrev cX3_candlesAfter : ByteArray := prog_1_method_39_code
def yX3_candlesAfter : MethodName := ⟨RX3, "candlesAfter", "(I)I"⟩
abbrev cX3_wishesAfter : ByteArray := prog_1_method_40_code
def yX3_wishesAfter : MethodName := ⟨RX3, "wishesAfter", "(II)I"⟩
abbrev cX3_forecastDays : ByteArray := prog_1_method_41_code
def yX3_forecastDays : MethodName := ⟨RX3, "forecastDays", "(I)V"⟩
abbrev cX3_heldParties : ByteArray := prog_1_method_42_code
def yX3_heldParties : MethodName := ⟨RX3, "heldParties", "()I"⟩
abbrev cX3_failedParties : ByteArray := prog_1_method_43_code
def yX3_failedParties : MethodName := ⟨RX3, "failedParties", "()I"⟩
abbrev cX3_clashes : ByteArray := prog_1_method_44_code
def yX3_clashes : MethodName := ⟨RX3, "clashes", "()I"⟩
abbrev cX3_clash : ByteArray := prog_1_method_45_code
def yX3_clash : MethodName := ⟨RX3, "clash", "(II)Z"⟩
abbrev cX3_candleDifference : ByteArray := prog_1_method_46_code
def yX3_candleDifference : MethodName := ⟨RX3, "candleDifference", "()I"⟩
abbrev cX3_meanAge : ByteArray := prog_1_method_47_code
def yX3_meanAge : MethodName := ⟨RX3, "meanAge", "()D"⟩
abbrev cX3_wishShare : ByteArray := prog_1_method_48_code
def yX3_wishShare : MethodName := ⟨RX3, "wishShare", "()F"⟩
abbrev cX3_advance : ByteArray := prog_1_method_49_code
def yX3_advance : MethodName := ⟨RX3, "advance", "(I)I"⟩
abbrev cX3_draw : ByteArray := prog_1_method_50_code
def yX3_draw : MethodName := ⟨RX3, "draw", "(I)I"⟩
abbrev cX3_setBirthday : ByteArray := prog_1_method_51_code
def yX3_setBirthday : MethodName := ⟨RX3, "setBirthday", "(III)I"⟩
abbrev cX3_forgetBirthday : ByteArray := prog_1_method_52_code
def yX3_forgetBirthday : MethodName := ⟨RX3, "forgetBirthday", "(I)I"⟩
abbrev cX3_moveTo : ByteArray := prog_1_method_53_code
def yX3_moveTo : MethodName := ⟨RX3, "moveTo", "(II)I"⟩
abbrev cX3_buyCandles : ByteArray := prog_1_method_54_code
def yX3_buyCandles : MethodName := ⟨RX3, "buyCandles", "(I)I"⟩
abbrev cX3_bakeCakes : ByteArray := prog_1_method_55_code
def yX3_bakeCakes : MethodName := ⟨RX3, "bakeCakes", "(II)I"⟩
abbrev cX3_restore : ByteArray := prog_1_method_56_code
def yX3_restore : MethodName := ⟨RX3, "restore", "(I)I"⟩
abbrev cX3_stateIn : ByteArray := prog_1_method_57_code
def yX3_stateIn : MethodName := ⟨RX3, "stateIn", "(I)LInventedBirthdays$Registry;"⟩
abbrev cX3_isFilled : ByteArray := prog_1_method_58_code
def yX3_isFilled : MethodName := ⟨RX3, "isFilled", "(I)Z"⟩
abbrev cX3_undo : ByteArray := prog_1_method_59_code
def yX3_undo : MethodName := ⟨RX3, "undo", "()I"⟩
abbrev cX3_save : ByteArray := prog_1_method_60_code
def yX3_save : MethodName := ⟨RX3, "save", "(I)I"⟩
abbrev cX3_writeChild : ByteArray := prog_1_method_61_code
def yX3_writeChild : MethodName := ⟨RX3, "writeChild", "(I)I"⟩
abbrev cX3_writeDate : ByteArray := prog_1_method_62_code
def yX3_writeDate : MethodName := ⟨RX3, "writeDate", "()I"⟩
abbrev cX3_outputByte : ByteArray := prog_1_method_63_code
def yX3_outputByte : MethodName := ⟨RX3, "outputByte", "(I)I"⟩
abbrev cX3_writeName : ByteArray := prog_1_method_64_code
def yX3_writeName : MethodName := ⟨RX3, "writeName", "(I)V"⟩
abbrev cX3_writeNumber : ByteArray := prog_1_method_65_code
def yX3_writeNumber : MethodName := ⟨RX3, "writeNumber", "(I)V"⟩
abbrev cX3_writeByte : ByteArray := prog_1_method_66_code
def yX3_writeByte : MethodName := ⟨RX3, "writeByte", "(I)V"⟩
abbrev cX3_needChild : ByteArray := prog_1_method_67_code
def yX3_needChild : MethodName := ⟨RX3, "needChild", "(I)V"⟩
abbrev cX3_needGarden : ByteArray := prog_1_method_68_code
def yX3_needGarden : MethodName := ⟨RX3, "needGarden", "(I)V"⟩
abbrev cX3_needSlot : ByteArray := prog_1_method_69_code
def yX3_needSlot : MethodName := ⟨RX3, "needSlot", "(I)V"⟩
abbrev cX3_needDate : ByteArray := prog_1_method_70_code
def yX3_needDate : MethodName := ⟨RX3, "needDate", "(II)V"⟩
abbrev cX3_needKind : ByteArray := prog_1_method_71_code
def yX3_needKind : MethodName := ⟨RX3, "needKind", "(I)V"⟩
abbrev cX3_needForecastDays : ByteArray := prog_1_method_72_code
def yX3_needForecastDays : MethodName := ⟨RX3, "needForecastDays", "(I)V"⟩
abbrev cX3_dateOf : ByteArray := prog_1_method_73_code
def yX3_dateOf : MethodName := ⟨RX3, "dateOf", "(II)I"⟩
abbrev cX3_monthAt : ByteArray := prog_1_method_74_code
def yX3_monthAt : MethodName := ⟨RX3, "monthAt", "(I)I"⟩
abbrev cX3_dayAt : ByteArray := prog_1_method_75_code
def yX3_dayAt : MethodName := ⟨RX3, "dayAt", "(I)I"⟩
abbrev cX3_seedAfter : ByteArray := prog_1_method_76_code
def yX3_seedAfter : MethodName := ⟨RX3, "seedAfter", "(I)I"⟩
abbrev cX3_cell : ByteArray := prog_1_method_77_code
def yX3_cell : MethodName := ⟨RX3, "cell", "([II)I"⟩
abbrev cX3_setCell : ByteArray := prog_1_method_78_code
def yX3_setCell : MethodName := ⟨RX3, "setCell", "([III)V"⟩
abbrev cX3_addToCell : ByteArray := prog_1_method_79_code
def yX3_addToCell : MethodName := ⟨RX3, "addToCell", "([III)V"⟩
abbrev cX3_copyRow : ByteArray := prog_1_method_80_code
def yX3_copyRow : MethodName := ⟨RX3, "copyRow", "([I[I)V"⟩
abbrev cX3_sum : ByteArray := prog_1_method_81_code
def yX3_sum : MethodName := ⟨RX3, "sum", "([II)I"⟩
abbrev cX3_countOf : ByteArray := prog_1_method_82_code
def yX3_countOf : MethodName := ⟨RX3, "countOf", "(I[II)I"⟩
def RX4 : String := "InventedBirthdaysModel"
def TX4 : u_T := fun k => match k with
  | 0 => ("InventedBirthdaysModel", "keys", "[I", true)
  | 1 => ("InventedBirthdaysModel", "thrown", "I", false)
  | 2 => ("InventedBirthdaysModel", "now", "[I", true)
  | 3 => ("InventedBirthdaysModel", "aside", "[I", true)
  | 4 => ("InventedBirthdaysModel", "old", "[I", true)
  | 5 => ("InventedBirthdaysModel", "oldMany", "I", false)
  | 6 => ("InventedBirthdaysModel", "saved", "[I", true)
  | 7 => ("InventedBirthdaysModel", "savedSet", "I", false)
  | 8 => ("InventedBirthdaysModel", "spelled", "[I", true)
  | 9 => ("InventedBirthdaysModel", "input", "[B", true)
  | 10 => ("InventedBirthdaysModel", "inputMany", "I", false)
  | 11 => ("InventedBirthdaysModel", "output", "[B", true)
  | 12 => ("InventedBirthdaysModel", "outputMany", "I", false)
  | 13 => ("InventedBirthdaysModel", "errorKind", "I", false)
  | 14 => ("InventedBirthdaysModel", "errorOffset", "I", false)
  | 15 => ("InventedBirthdaysModel", "triedSeed", "I", false)
  | 16 => ("InventedBirthdaysModel", "triedDate", "I", false)
  | 17 => ("InventedBirthdaysModel", "textEnd", "I", false)
  | 18 => ("InventedBirthdaysModel", "kind", "I", false)
  | 19 => ("InventedBirthdaysModel", "from", "I", false)
  | 20 => ("InventedBirthdaysModel", "to", "I", false)
  | 21 => ("InventedBirthdaysModel", "value", "I", false)
  | 22 => ("InventedBirthdaysModel", "fault", "I", false)
  | _ => ("InventedBirthdaysModel", "faultAt", "I", false)
def tyX4 : Nat → FieldType := fun k => match k with
  | 0 => .array .int
  | 1 => .int
  | 2 => .array .int
  | 3 => .array .int
  | 4 => .array .int
  | 5 => .int
  | 6 => .array .int
  | 7 => .int
  | 8 => .array .int
  | 9 => .array .byte
  | 10 => .int
  | 11 => .array .byte
  | 12 => .int
  | 13 => .int
  | 14 => .int
  | 15 => .int
  | 16 => .int
  | 17 => .int
  | 18 => .int
  | 19 => .int
  | 20 => .int
  | 21 => .int
  | 22 => .int
  | _ => .int
theorem nmX4 : ∀ a, a < 24 → ∀ b, b < 24 → a ≠ b → (TX4 a).2.1 ≠ (TX4 b).2.1 := by decide +kernel
theorem tyX4_ok : ∀ k, k < 24 → parseFieldDescriptor (TX4 k).2.2.1 = some (tyX4 k) := by decide +kernel
abbrev cX4_init : ByteArray := prog_6_method_1_code
def yX4_init : MethodName := ⟨RX4, "<init>", "()V"⟩
abbrev cX4_spellsKey : ByteArray := prog_6_method_2_code
def yX4_spellsKey : MethodName := ⟨RX4, "spellsKey", "(I)V"⟩
abbrev cX4_thrown : ByteArray := prog_6_method_3_code
def yX4_thrown : MethodName := ⟨RX4, "thrown", "()I"⟩
abbrev cX4_refuse : ByteArray := prog_6_method_4_code
def yX4_refuse : MethodName := ⟨RX4, "refuse", "(I)I"⟩
abbrev cX4_told : ByteArray := prog_6_method_5_code
def yX4_told : MethodName := ⟨RX4, "told", "(I)I"⟩
abbrev cX4_in : ByteArray := prog_6_method_6_code
def yX4_in : MethodName := ⟨RX4, "in", "(III)Z"⟩
abbrev cX4_without : ByteArray := prog_6_method_7_code
def yX4_without : MethodName := ⟨RX4, "without", "(I)I"⟩
abbrev cX4_c : ByteArray := prog_6_method_8_code
def yX4_c : MethodName := ⟨RX4, "c", "(I)I"⟩
abbrev cX4_isGarden : ByteArray := prog_6_method_9_code
def yX4_isGarden : MethodName := ⟨RX4, "isGarden", "(I)Z"⟩
abbrev cX4_isChild : ByteArray := prog_6_method_10_code
def yX4_isChild : MethodName := ⟨RX4, "isChild", "(I)Z"⟩
abbrev cX4_isDate : ByteArray := prog_6_method_11_code
def yX4_isDate : MethodName := ⟨RX4, "isDate", "(II)Z"⟩
abbrev cX4_position : ByteArray := prog_6_method_12_code
def yX4_position : MethodName := ⟨RX4, "position", "(II)I"⟩
abbrev cX4_plants : ByteArray := prog_6_method_13_code
def yX4_plants : MethodName := ⟨RX4, "plants", "(I)V"⟩
abbrev cX4_comes : ByteArray := prog_6_method_14_code
def yX4_comes : MethodName := ⟨RX4, "comes", "(IIII)V"⟩
abbrev cX4_childSpelled : ByteArray := prog_6_method_15_code
def yX4_childSpelled : MethodName := ⟨RX4, "childSpelled", "()I"⟩
abbrev cX4_liking : ByteArray := prog_6_method_16_code
def yX4_liking : MethodName := ⟨RX4, "liking", "(I)I"⟩
abbrev cX4_partyOn : ByteArray := prog_6_method_17_code
def yX4_partyOn : MethodName := ⟨RX4, "partyOn", "(II)I"⟩
abbrev cX4_isTaken : ByteArray := prog_6_method_18_code
def yX4_isTaken : MethodName := ⟨RX4, "isTaken", "(III)Z"⟩
abbrev cX4_reason : ByteArray := prog_6_method_19_code
def yX4_reason : MethodName := ⟨RX4, "reason", "(III)I"⟩
abbrev cX4_daysTo : ByteArray := prog_6_method_20_code
def yX4_daysTo : MethodName := ⟨RX4, "daysTo", "(I)I"⟩
abbrev cX4_seedBehind : ByteArray := prog_6_method_21_code
def yX4_seedBehind : MethodName := ⟨RX4, "seedBehind", "(I)I"⟩
abbrev cX4_tries : ByteArray := prog_6_method_22_code
def yX4_tries : MethodName := ⟨RX4, "tries", "(I)I"⟩
abbrev cX4_takesDraw : ByteArray := prog_6_method_23_code
def yX4_takesDraw : MethodName := ⟨RX4, "takesDraw", "(II)V"⟩
abbrev cX4_cakeFor : ByteArray := prog_6_method_24_code
def yX4_cakeFor : MethodName := ⟨RX4, "cakeFor", "(I)I"⟩
abbrev cX4_strength : ByteArray := prog_6_method_25_code
def yX4_strength : MethodName := ⟨RX4, "strength", "(II)I"⟩
abbrev cX4_celebrates : ByteArray := prog_6_method_26_code
def yX4_celebrates : MethodName := ⟨RX4, "celebrates", "(I)Z"⟩
abbrev cX4_passesDay : ByteArray := prog_6_method_27_code
def yX4_passesDay : MethodName := ⟨RX4, "passesDay", "()I"⟩
abbrev cX4_passes : ByteArray := prog_6_method_28_code
def yX4_passes : MethodName := ⟨RX4, "passes", "(I)I"⟩
abbrev cX4_isTooLate : ByteArray := prog_6_method_29_code
def yX4_isTooLate : MethodName := ⟨RX4, "isTooLate", "(I)Z"⟩
abbrev cX4_remembers : ByteArray := prog_6_method_30_code
def yX4_remembers : MethodName := ⟨RX4, "remembers", "()V"⟩
abbrev cX4_putsAside : ByteArray := prog_6_method_31_code
def yX4_putsAside : MethodName := ⟨RX4, "putsAside", "()V"⟩
abbrev cX4_putsBack : ByteArray := prog_6_method_32_code
def yX4_putsBack : MethodName := ⟨RX4, "putsBack", "()V"⟩
abbrev cX4_isLetter : ByteArray := prog_6_method_33_code
def yX4_isLetter : MethodName := ⟨RX4, "isLetter", "(I)Z"⟩
abbrev cX4_isDigit : ByteArray := prog_6_method_34_code
def yX4_isDigit : MethodName := ⟨RX4, "isDigit", "(I)Z"⟩
abbrev cX4_next : ByteArray := prog_6_method_35_code
def yX4_next : MethodName := ⟨RX4, "next", "()V"⟩
abbrev cX4_errs : ByteArray := prog_6_method_36_code
def yX4_errs : MethodName := ⟨RX4, "errs", "(I)V"⟩
abbrev cX4_isKey : ByteArray := prog_6_method_37_code
def yX4_isKey : MethodName := ⟨RX4, "isKey", "(I)Z"⟩
abbrev cX4_goesOn : ByteArray := prog_6_method_38_code
def yX4_goesOn : MethodName := ⟨RX4, "goesOn", "()V"⟩
abbrev cX4_here : ByteArray := prog_6_method_39_code
def yX4_here : MethodName := ⟨RX4, "here", "(II)I"⟩
abbrev cX4_takesNumber : ByteArray := prog_6_method_40_code
def yX4_takesNumber : MethodName := ⟨RX4, "takesNumber", "(II)I"⟩
abbrev cX4_spellsHere : ByteArray := prog_6_method_41_code
def yX4_spellsHere : MethodName := ⟨RX4, "spellsHere", "()V"⟩
abbrev cX4_childHere : ByteArray := prog_6_method_42_code
def yX4_childHere : MethodName := ⟨RX4, "childHere", "()I"⟩
abbrev cX4_readsGarden : ByteArray := prog_6_method_43_code
def yX4_readsGarden : MethodName := ⟨RX4, "readsGarden", "()V"⟩
abbrev cX4_readsChild : ByteArray := prog_6_method_44_code
def yX4_readsChild : MethodName := ⟨RX4, "readsChild", "()V"⟩
abbrev cX4_readsBirthday : ByteArray := prog_6_method_45_code
def yX4_readsBirthday : MethodName := ⟨RX4, "readsBirthday", "()V"⟩
abbrev cX4_readsDraw : ByteArray := prog_6_method_46_code
def yX4_readsDraw : MethodName := ⟨RX4, "readsDraw", "()V"⟩
abbrev cX4_readsCakes : ByteArray := prog_6_method_47_code
def yX4_readsCakes : MethodName := ⟨RX4, "readsCakes", "()V"⟩
abbrev cX4_readsDays : ByteArray := prog_6_method_48_code
def yX4_readsDays : MethodName := ⟨RX4, "readsDays", "()V"⟩
abbrev cX4_readsLine : ByteArray := prog_6_method_49_code
def yX4_readsLine : MethodName := ⟨RX4, "readsLine", "()V"⟩
abbrev cX4_readsText : ByteArray := prog_6_method_50_code
def yX4_readsText : MethodName := ⟨RX4, "readsText", "(I)V"⟩
abbrev cX4_feeds : ByteArray := prog_6_method_51_code
def yX4_feeds : MethodName := ⟨RX4, "feeds", "(I)V"⟩
abbrev cX4_append : ByteArray := prog_6_method_52_code
def yX4_append : MethodName := ⟨RX4, "append", "(IIIII)I"⟩
abbrev cX4_load : ByteArray := prog_6_method_53_code
def yX4_load : MethodName := ⟨RX4, "load", "(I)I"⟩
abbrev cX4_errorKind : ByteArray := prog_6_method_54_code
def yX4_errorKind : MethodName := ⟨RX4, "errorKind", "()I"⟩
abbrev cX4_errorOffset : ByteArray := prog_6_method_55_code
def yX4_errorOffset : MethodName := ⟨RX4, "errorOffset", "()I"⟩
abbrev cX4_year : ByteArray := prog_6_method_56_code
def yX4_year : MethodName := ⟨RX4, "year", "()I"⟩
abbrev cX4_month : ByteArray := prog_6_method_57_code
def yX4_month : MethodName := ⟨RX4, "month", "()I"⟩
abbrev cX4_dayOfMonth : ByteArray := prog_6_method_58_code
def yX4_dayOfMonth : MethodName := ⟨RX4, "dayOfMonth", "()I"⟩
abbrev cX4_seed : ByteArray := prog_6_method_59_code
def yX4_seed : MethodName := ⟨RX4, "seed", "()I"⟩
abbrev cX4_nextDraw : ByteArray := prog_6_method_60_code
def yX4_nextDraw : MethodName := ⟨RX4, "nextDraw", "()I"⟩
abbrev cX4_candles : ByteArray := prog_6_method_61_code
def yX4_candles : MethodName := ⟨RX4, "candles", "()I"⟩
abbrev cX4_cakes : ByteArray := prog_6_method_62_code
def yX4_cakes : MethodName := ⟨RX4, "cakes", "(I)I"⟩
abbrev cX4_mostWantedCake : ByteArray := prog_6_method_63_code
def yX4_mostWantedCake : MethodName := ⟨RX4, "mostWantedCake", "()I"⟩
abbrev cX4_gardenCount : ByteArray := prog_6_method_64_code
def yX4_gardenCount : MethodName := ⟨RX4, "gardenCount", "()I"⟩
abbrev cX4_seatsOf : ByteArray := prog_6_method_65_code
def yX4_seatsOf : MethodName := ⟨RX4, "seatsOf", "(I)I"⟩
abbrev cX4_childrenOf : ByteArray := prog_6_method_66_code
def yX4_childrenOf : MethodName := ⟨RX4, "childrenOf", "(I)I"⟩
abbrev cX4_partyIn : ByteArray := prog_6_method_67_code
def yX4_partyIn : MethodName := ⟨RX4, "partyIn", "(III)I"⟩
abbrev cX4_childCount : ByteArray := prog_6_method_68_code
def yX4_childCount : MethodName := ⟨RX4, "childCount", "()I"⟩
abbrev cX4_ofChild : ByteArray := prog_6_method_69_code
def yX4_ofChild : MethodName := ⟨RX4, "ofChild", "(II)I"⟩
abbrev cX4_cakeOf : ByteArray := prog_6_method_70_code
def yX4_cakeOf : MethodName := ⟨RX4, "cakeOf", "(I)I"⟩
abbrev cX4_breathOf : ByteArray := prog_6_method_71_code
def yX4_breathOf : MethodName := ⟨RX4, "breathOf", "(I)I"⟩
abbrev cX4_ageOf : ByteArray := prog_6_method_72_code
def yX4_ageOf : MethodName := ⟨RX4, "ageOf", "(I)I"⟩
abbrev cX4_gardenOf : ByteArray := prog_6_method_73_code
def yX4_gardenOf : MethodName := ⟨RX4, "gardenOf", "(I)I"⟩
abbrev cX4_birthdayOf : ByteArray := prog_6_method_74_code
def yX4_birthdayOf : MethodName := ⟨RX4, "birthdayOf", "(I)I"⟩
abbrev cX4_hasBirthday : ByteArray := prog_6_method_75_code
def yX4_hasBirthday : MethodName := ⟨RX4, "hasBirthday", "(I)Z"⟩
abbrev cX4_daysUntilBirthday : ByteArray := prog_6_method_76_code
def yX4_daysUntilBirthday : MethodName := ⟨RX4, "daysUntilBirthday", "(I)I"⟩
abbrev cX4_partiesOf : ByteArray := prog_6_method_77_code
def yX4_partiesOf : MethodName := ⟨RX4, "partiesOf", "(I)I"⟩
abbrev cX4_wishesOf : ByteArray := prog_6_method_78_code
def yX4_wishesOf : MethodName := ⟨RX4, "wishesOf", "(I)I"⟩
abbrev cX4_strengthOf : ByteArray := prog_6_method_79_code
def yX4_strengthOf : MethodName := ⟨RX4, "strengthOf", "(I)I"⟩
abbrev cX4_nextChild : ByteArray := prog_6_method_80_code
def yX4_nextChild : MethodName := ⟨RX4, "nextChild", "()I"⟩
abbrev cX4_sharing : ByteArray := prog_6_method_81_code
def yX4_sharing : MethodName := ⟨RX4, "sharing", "(I)I"⟩
abbrev cX4_childrenOn : ByteArray := prog_6_method_82_code
def yX4_childrenOn : MethodName := ⟨RX4, "childrenOn", "(II)I"⟩
abbrev cX4_isFirst : ByteArray := prog_6_method_83_code
def yX4_isFirst : MethodName := ⟨RX4, "isFirst", "(I)Z"⟩
abbrev cX4_differentDates : ByteArray := prog_6_method_84_code
def yX4_differentDates : MethodName := ⟨RX4, "differentDates", "()I"⟩
abbrev cX4_dateAt : ByteArray := prog_6_method_85_code
def yX4_dateAt : MethodName := ⟨RX4, "dateAt", "(I)I"⟩
abbrev cX4_inMonth : ByteArray := prog_6_method_86_code
def yX4_inMonth : MethodName := ⟨RX4, "inMonth", "(I)I"⟩
abbrev cX4_busiestMonth : ByteArray := prog_6_method_87_code
def yX4_busiestMonth : MethodName := ⟨RX4, "busiestMonth", "()I"⟩
abbrev cX4_obstacle : ByteArray := prog_6_method_88_code
def yX4_obstacle : MethodName := ⟨RX4, "obstacle", "(IIII)I"⟩
abbrev cX4_freeGarden : ByteArray := prog_6_method_89_code
def yX4_freeGarden : MethodName := ⟨RX4, "freeGarden", "(III)I"⟩
abbrev cX4_drawsNeeded : ByteArray := prog_6_method_90_code
def yX4_drawsNeeded : MethodName := ⟨RX4, "drawsNeeded", "(I)I"⟩
abbrev cX4_candlesAfter : ByteArray := prog_6_method_91_code
def yX4_candlesAfter : MethodName := ⟨RX4, "candlesAfter", "(I)I"⟩
abbrev cX4_wishesAfter : ByteArray := prog_6_method_92_code
def yX4_wishesAfter : MethodName := ⟨RX4, "wishesAfter", "(II)I"⟩
abbrev cX4_heldParties : ByteArray := prog_6_method_93_code
def yX4_heldParties : MethodName := ⟨RX4, "heldParties", "()I"⟩
abbrev cX4_failedParties : ByteArray := prog_6_method_94_code
def yX4_failedParties : MethodName := ⟨RX4, "failedParties", "()I"⟩
abbrev cX4_clashes : ByteArray := prog_6_method_95_code
def yX4_clashes : MethodName := ⟨RX4, "clashes", "()I"⟩
abbrev cX4_candleDifference : ByteArray := prog_6_method_96_code
def yX4_candleDifference : MethodName := ⟨RX4, "candleDifference", "()I"⟩
abbrev cX4_sumOf : ByteArray := prog_6_method_97_code
def yX4_sumOf : MethodName := ⟨RX4, "sumOf", "(I)I"⟩
abbrev cX4_meanAge : ByteArray := prog_6_method_98_code
def yX4_meanAge : MethodName := ⟨RX4, "meanAge", "()D"⟩
abbrev cX4_wishShare : ByteArray := prog_6_method_99_code
def yX4_wishShare : MethodName := ⟨RX4, "wishShare", "()F"⟩
abbrev cX4_advance : ByteArray := prog_6_method_100_code
def yX4_advance : MethodName := ⟨RX4, "advance", "(I)I"⟩
abbrev cX4_draw : ByteArray := prog_6_method_101_code
def yX4_draw : MethodName := ⟨RX4, "draw", "(I)I"⟩
abbrev cX4_setBirthday : ByteArray := prog_6_method_102_code
def yX4_setBirthday : MethodName := ⟨RX4, "setBirthday", "(III)I"⟩
abbrev cX4_forgetBirthday : ByteArray := prog_6_method_103_code
def yX4_forgetBirthday : MethodName := ⟨RX4, "forgetBirthday", "(I)I"⟩
abbrev cX4_moveTo : ByteArray := prog_6_method_104_code
def yX4_moveTo : MethodName := ⟨RX4, "moveTo", "(II)I"⟩
abbrev cX4_buyCandles : ByteArray := prog_6_method_105_code
def yX4_buyCandles : MethodName := ⟨RX4, "buyCandles", "(I)I"⟩
abbrev cX4_bakeCakes : ByteArray := prog_6_method_106_code
def yX4_bakeCakes : MethodName := ⟨RX4, "bakeCakes", "(II)I"⟩
abbrev cX4_restore : ByteArray := prog_6_method_107_code
def yX4_restore : MethodName := ⟨RX4, "restore", "(I)I"⟩
abbrev cX4_undo : ByteArray := prog_6_method_108_code
def yX4_undo : MethodName := ⟨RX4, "undo", "()I"⟩
abbrev cX4_save : ByteArray := prog_6_method_109_code
def yX4_save : MethodName := ⟨RX4, "save", "(I)I"⟩
abbrev cX4_writes : ByteArray := prog_6_method_110_code
def yX4_writes : MethodName := ⟨RX4, "writes", "(I)V"⟩
abbrev cX4_writesNumber : ByteArray := prog_6_method_111_code
def yX4_writesNumber : MethodName := ⟨RX4, "writesNumber", "(I)V"⟩
abbrev cX4_writeChild : ByteArray := prog_6_method_112_code
def yX4_writeChild : MethodName := ⟨RX4, "writeChild", "(I)I"⟩
abbrev cX4_writeDate : ByteArray := prog_6_method_113_code
def yX4_writeDate : MethodName := ⟨RX4, "writeDate", "()I"⟩
abbrev cX4_outputByte : ByteArray := prog_6_method_114_code
def yX4_outputByte : MethodName := ⟨RX4, "outputByte", "(I)I"⟩
def RJx145de : String := "java/io/Serializable"
def TJx145de : u_T := fun k => match k with
  | _ => ("", "", "", false)
def tyJx145de : Nat → FieldType := fun k => match k with
  | _ => .int
theorem nmJx145de : ∀ a, a < 0 → ∀ b, b < 0 → a ≠ b → (TJx145de a).2.1 ≠ (TJx145de b).2.1 := by decide +kernel
theorem tyJx145de_ok : ∀ k, k < 0 → parseFieldDescriptor (TJx145de k).2.2.1 = some (tyJx145de k) := by decide +kernel
def RJx9f9b0 : String := "java/lang/CharSequence"
def TJx9f9b0 : u_T := fun k => match k with
  | _ => ("", "", "", false)
def tyJx9f9b0 : Nat → FieldType := fun k => match k with
  | _ => .int
theorem nmJx9f9b0 : ∀ a, a < 0 → ∀ b, b < 0 → a ≠ b → (TJx9f9b0 a).2.1 ≠ (TJx9f9b0 b).2.1 := by decide +kernel
theorem tyJx9f9b0_ok : ∀ k, k < 0 → parseFieldDescriptor (TJx9f9b0 k).2.2.1 = some (tyJx9f9b0 k) := by decide +kernel
def RJxb160c : String := "java/lang/Comparable"
def TJxb160c : u_T := fun k => match k with
  | _ => ("", "", "", false)
def tyJxb160c : Nat → FieldType := fun k => match k with
  | _ => .int
theorem nmJxb160c : ∀ a, a < 0 → ∀ b, b < 0 → a ≠ b → (TJxb160c a).2.1 ≠ (TJxb160c b).2.1 := by decide +kernel
theorem tyJxb160c_ok : ∀ k, k < 0 → parseFieldDescriptor (TJxb160c k).2.2.1 = some (tyJxb160c k) := by decide +kernel
def RJ9 : String := "java/lang/Math"
def TJ9 : u_T := fun k => match k with
  | _ => ("", "", "", false)
def tyJ9 : Nat → FieldType := fun k => match k with
  | _ => .int
theorem nmJ9 : ∀ a, a < 0 → ∀ b, b < 0 → a ≠ b → (TJ9 a).2.1 ≠ (TJ9 b).2.1 := by decide +kernel
theorem tyJ9_ok : ∀ k, k < 0 → parseFieldDescriptor (TJ9 k).2.2.1 = some (tyJ9 k) := by decide +kernel
abbrev cJ9_max_7cf53 : ByteArray := prog_11_method_65_code
def yJ9_max_7cf53 : MethodName := ⟨RJ9, "max", "(II)I"⟩
abbrev cJ9_min_7cf53 : ByteArray := prog_11_method_69_code
def yJ9_min_7cf53 : MethodName := ⟨RJ9, "min", "(II)I"⟩
def RJ0 : String := "java/lang/String"
def TJ0 : u_T := fun k => match k with
  | _ => ("", "", "", false)
def tyJ0 : Nat → FieldType := fun k => match k with
  | _ => .int
theorem nmJ0 : ∀ a, a < 0 → ∀ b, b < 0 → a ≠ b → (TJ0 a).2.1 ≠ (TJ0 b).2.1 := by decide +kernel
theorem tyJ0_ok : ∀ k, k < 0 → parseFieldDescriptor (TJ0 k).2.2.1 = some (tyJ0 k) := by decide +kernel
abbrev cJ0_length_8abf5 : ByteArray := prog_13_method_54_code
def yJ0_length_8abf5 : MethodName := ⟨RJ0, "length", "()I"⟩
abbrev cJ0_charAt_5068e : ByteArray := prog_13_method_56_code
def yJ0_charAt_5068e : MethodName := ⟨RJ0, "charAt", "(I)C"⟩
abbrev cJ0_coder_7d493 : ByteArray := prog_13_method_152_code
def yJ0_coder_7d493 : MethodName := ⟨RJ0, "coder", "()B"⟩
abbrev cJ0_isLatin1_aae02 : ByteArray := prog_13_method_154_code
def yJ0_isLatin1_aae02 : MethodName := ⟨RJ0, "isLatin1", "()Z"⟩
abbrev cJ0_checkIndex_df160 : ByteArray := prog_13_method_155_code
def yJ0_checkIndex_df160 : MethodName := ⟨RJ0, "checkIndex", "(II)V"⟩
def RJ1 : String := "java/lang/StringLatin1"
def TJ1 : u_T := fun k => match k with
  | _ => ("", "", "", false)
def tyJ1 : Nat → FieldType := fun k => match k with
  | _ => .int
theorem nmJ1 : ∀ a, a < 0 → ∀ b, b < 0 → a ≠ b → (TJ1 a).2.1 ≠ (TJ1 b).2.1 := by decide +kernel
theorem tyJ1_ok : ∀ k, k < 0 → parseFieldDescriptor (TJ1 k).2.2.1 = some (tyJ1 k) := by decide +kernel
abbrev cJ1_charAt_3b067 : ByteArray := prog_14_method_2_code
def yJ1_charAt_3b067 : MethodName := ⟨RJ1, "charAt", "([BI)C"⟩
def RJ2 : String := "java/lang/StringUTF16"
def TJ2 : u_T := fun k => match k with
  | _ => ("", "", "", false)
def tyJ2 : Nat → FieldType := fun k => match k with
  | _ => .int
theorem nmJ2 : ∀ a, a < 0 → ∀ b, b < 0 → a ≠ b → (TJ2 a).2.1 ≠ (TJ2 b).2.1 := by decide +kernel
theorem tyJ2_ok : ∀ k, k < 0 → parseFieldDescriptor (TJ2 k).2.2.1 = some (tyJ2 k) := by decide +kernel
abbrev cJ2_getChar_3b067 : ByteArray := prog_15_method_5_code
def yJ2_getChar_3b067 : MethodName := ⟨RJ2, "getChar", "([BI)C"⟩
abbrev cJ2_length_9d52b : ByteArray := prog_15_method_6_code
def yJ2_length_9d52b : MethodName := ⟨RJ2, "length", "([B)I"⟩
abbrev cJ2_charAt_3b067 : ByteArray := prog_15_method_83_code
def yJ2_charAt_3b067 : MethodName := ⟨RJ2, "charAt", "([BI)C"⟩
abbrev cJ2_checkIndex_2214a : ByteArray := prog_15_method_91_code
def yJ2_checkIndex_2214a : MethodName := ⟨RJ2, "checkIndex", "(I[B)V"⟩
def RJ10 : String := "java/lang/System"
def TJ10 : u_T := fun k => match k with
  | _ => ("", "", "", false)
def tyJ10 : Nat → FieldType := fun k => match k with
  | _ => .int
theorem nmJ10 : ∀ a, a < 0 → ∀ b, b < 0 → a ≠ b → (TJ10 a).2.1 ≠ (TJ10 b).2.1 := by decide +kernel
theorem tyJ10_ok : ∀ k, k < 0 → parseFieldDescriptor (TJ10 k).2.2.1 = some (tyJ10 k) := by decide +kernel
def RJxfd54e : String := "java/lang/constant/Constable"
def TJxfd54e : u_T := fun k => match k with
  | _ => ("", "", "", false)
def tyJxfd54e : Nat → FieldType := fun k => match k with
  | _ => .int
theorem nmJxfd54e : ∀ a, a < 0 → ∀ b, b < 0 → a ≠ b → (TJxfd54e a).2.1 ≠ (TJxfd54e b).2.1 := by decide +kernel
theorem tyJxfd54e_ok : ∀ k, k < 0 → parseFieldDescriptor (TJxfd54e k).2.2.1 = some (tyJxfd54e k) := by decide +kernel
def RJx3cf43 : String := "java/lang/constant/ConstantDesc"
def TJx3cf43 : u_T := fun k => match k with
  | _ => ("", "", "", false)
def tyJx3cf43 : Nat → FieldType := fun k => match k with
  | _ => .int
theorem nmJx3cf43 : ∀ a, a < 0 → ∀ b, b < 0 → a ≠ b → (TJx3cf43 a).2.1 ≠ (TJx3cf43 b).2.1 := by decide +kernel
theorem tyJx3cf43_ok : ∀ k, k < 0 → parseFieldDescriptor (TJx3cf43 k).2.2.1 = some (tyJx3cf43 k) := by decide +kernel
def RJ7 : String := "java/util/Arrays"
def TJ7 : u_T := fun k => match k with
  | _ => ("", "", "", false)
def tyJ7 : Nat → FieldType := fun k => match k with
  | _ => .int
theorem nmJ7 : ∀ a, a < 0 → ∀ b, b < 0 → a ≠ b → (TJ7 a).2.1 ≠ (TJ7 b).2.1 := by decide +kernel
theorem tyJ7_ok : ∀ k, k < 0 → parseFieldDescriptor (TJ7 k).2.2.1 = some (tyJ7 k) := by decide +kernel
abbrev cJ7_fill_53178 : ByteArray := prog_18_method_103_code
def yJ7_fill_53178 : MethodName := ⟨RJ7, "fill", "([II)V"⟩
def RJ3 : String := "jdk/internal/util/Preconditions"
def TJ3 : u_T := fun k => match k with
  | _ => ("", "", "", false)
def tyJ3 : Nat → FieldType := fun k => match k with
  | _ => .int
theorem nmJ3 : ∀ a, a < 0 → ∀ b, b < 0 → a ≠ b → (TJ3 a).2.1 ≠ (TJ3 b).2.1 := by decide +kernel
theorem tyJ3_ok : ∀ k, k < 0 → parseFieldDescriptor (TJ3 k).2.2.1 = some (tyJ3 k) := by decide +kernel
abbrev cJ3_checkIndex_8e157 : ByteArray := prog_19_method_11_code
def yJ3_checkIndex_8e157 : MethodName := ⟨RJ3, "checkIndex", "(IILjava/util/function/BiFunction;)I"⟩
def RL : String := "InventedBirthdaysLaw"
abbrev cL_append : ByteArray := method_3_code
def yL_append : MethodName := ⟨RL, "append", "(LInventedBirthdays;IIIII[J)I"⟩
abbrev cL_load : ByteArray := method_4_code
def yL_load : MethodName := ⟨RL, "load", "(LInventedBirthdays;I[J)I"⟩
abbrev cL_cakes : ByteArray := method_5_code
def yL_cakes : MethodName := ⟨RL, "cakes", "(LInventedBirthdays;I[J)I"⟩
abbrev cL_seatsOf : ByteArray := method_6_code
def yL_seatsOf : MethodName := ⟨RL, "seatsOf", "(LInventedBirthdays;I[J)I"⟩
abbrev cL_childrenOf : ByteArray := method_7_code
def yL_childrenOf : MethodName := ⟨RL, "childrenOf", "(LInventedBirthdays;I[J)I"⟩
abbrev cL_partyIn : ByteArray := method_8_code
def yL_partyIn : MethodName := ⟨RL, "partyIn", "(LInventedBirthdays;III[J)I"⟩
abbrev cL_cakeOf : ByteArray := method_9_code
def yL_cakeOf : MethodName := ⟨RL, "cakeOf", "(LInventedBirthdays;I[J)I"⟩
abbrev cL_breathOf : ByteArray := method_10_code
def yL_breathOf : MethodName := ⟨RL, "breathOf", "(LInventedBirthdays;I[J)I"⟩
abbrev cL_ageOf : ByteArray := method_11_code
def yL_ageOf : MethodName := ⟨RL, "ageOf", "(LInventedBirthdays;I[J)I"⟩
abbrev cL_gardenOf : ByteArray := method_12_code
def yL_gardenOf : MethodName := ⟨RL, "gardenOf", "(LInventedBirthdays;I[J)I"⟩
abbrev cL_birthdayOf : ByteArray := method_13_code
def yL_birthdayOf : MethodName := ⟨RL, "birthdayOf", "(LInventedBirthdays;I[J)I"⟩
abbrev cL_daysUntilBirthday : ByteArray := method_14_code
def yL_daysUntilBirthday : MethodName := ⟨RL, "daysUntilBirthday", "(LInventedBirthdays;I[J)I"⟩
abbrev cL_partiesOf : ByteArray := method_15_code
def yL_partiesOf : MethodName := ⟨RL, "partiesOf", "(LInventedBirthdays;I[J)I"⟩
abbrev cL_wishesOf : ByteArray := method_16_code
def yL_wishesOf : MethodName := ⟨RL, "wishesOf", "(LInventedBirthdays;I[J)I"⟩
abbrev cL_strengthOf : ByteArray := method_17_code
def yL_strengthOf : MethodName := ⟨RL, "strengthOf", "(LInventedBirthdays;I[J)I"⟩
abbrev cL_childrenOn : ByteArray := method_18_code
def yL_childrenOn : MethodName := ⟨RL, "childrenOn", "(LInventedBirthdays;II[J)I"⟩
abbrev cL_dateAt : ByteArray := method_19_code
def yL_dateAt : MethodName := ⟨RL, "dateAt", "(LInventedBirthdays;I[J)I"⟩
abbrev cL_obstacle : ByteArray := method_20_code
def yL_obstacle : MethodName := ⟨RL, "obstacle", "(LInventedBirthdays;IIII[J)I"⟩
abbrev cL_freeGarden : ByteArray := method_21_code
def yL_freeGarden : MethodName := ⟨RL, "freeGarden", "(LInventedBirthdays;III[J)I"⟩
abbrev cL_drawsNeeded : ByteArray := method_22_code
def yL_drawsNeeded : MethodName := ⟨RL, "drawsNeeded", "(LInventedBirthdays;I[J)I"⟩
abbrev cL_candlesAfter : ByteArray := method_23_code
def yL_candlesAfter : MethodName := ⟨RL, "candlesAfter", "(LInventedBirthdays;I[J)I"⟩
abbrev cL_wishesAfter : ByteArray := method_24_code
def yL_wishesAfter : MethodName := ⟨RL, "wishesAfter", "(LInventedBirthdays;II[J)I"⟩
abbrev cL_advance : ByteArray := method_25_code
def yL_advance : MethodName := ⟨RL, "advance", "(LInventedBirthdays;I[J)I"⟩
abbrev cL_draw : ByteArray := method_26_code
def yL_draw : MethodName := ⟨RL, "draw", "(LInventedBirthdays;I[J)I"⟩
abbrev cL_setBirthday : ByteArray := method_27_code
def yL_setBirthday : MethodName := ⟨RL, "setBirthday", "(LInventedBirthdays;III[J)I"⟩
abbrev cL_forgetBirthday : ByteArray := method_28_code
def yL_forgetBirthday : MethodName := ⟨RL, "forgetBirthday", "(LInventedBirthdays;I[J)I"⟩
abbrev cL_moveTo : ByteArray := method_29_code
def yL_moveTo : MethodName := ⟨RL, "moveTo", "(LInventedBirthdays;II[J)I"⟩
abbrev cL_buyCandles : ByteArray := method_30_code
def yL_buyCandles : MethodName := ⟨RL, "buyCandles", "(LInventedBirthdays;I[J)I"⟩
abbrev cL_bakeCakes : ByteArray := method_31_code
def yL_bakeCakes : MethodName := ⟨RL, "bakeCakes", "(LInventedBirthdays;II[J)I"⟩
abbrev cL_restore : ByteArray := method_32_code
def yL_restore : MethodName := ⟨RL, "restore", "(LInventedBirthdays;I[J)I"⟩
abbrev cL_undo : ByteArray := method_33_code
def yL_undo : MethodName := ⟨RL, "undo", "(LInventedBirthdays;[J)I"⟩
abbrev cL_save : ByteArray := method_34_code
def yL_save : MethodName := ⟨RL, "save", "(LInventedBirthdays;I[J)I"⟩
abbrev cL_writeChild : ByteArray := method_35_code
def yL_writeChild : MethodName := ⟨RL, "writeChild", "(LInventedBirthdays;I[J)I"⟩
abbrev cL_outputByte : ByteArray := method_36_code
def yL_outputByte : MethodName := ⟨RL, "outputByte", "(LInventedBirthdays;I[J)I"⟩
abbrev cL_law : ByteArray := code
def yL_law : MethodName := ⟨RL, "law", "([I)Z"⟩
abbrev vwCl : List vw_C := [(RX0, TX0, 3), (RX1, TX1, 9), (RX2, TX2, 20), (RX3, TX3, 10), (RX4, TX4, 24)]
end
section
theorem dX0_init_0 : decode cX0_init 0 = .ok (.aload_n 0, 1) := by decide +kernel
theorem dX0_init_1 : decode cX0_init 1 = .ok (.invokespecial 3, 3) := by decide +kernel
theorem dX0_init_4 : decode cX0_init 4 = .ok (.aload_n 0, 1) := by decide +kernel
theorem dX0_init_5 : decode cX0_init 5 = .ok (.bipush 10, 2) := by decide +kernel
theorem dX0_init_7 : decode cX0_init 7 = .ok (.anewarray 9, 3) := by decide +kernel
theorem dX0_init_10 : decode cX0_init 10 = .ok (.putfield 11, 3) := by decide +kernel
theorem dX0_init_13 : decode cX0_init 13 = .ok (.iconst 0, 1) := by decide +kernel
theorem dX0_init_14 : decode cX0_init 14 = .ok (.istore_n 1, 1) := by decide +kernel
theorem dX0_init_15 : decode cX0_init 15 = .ok (.iload_n 1, 1) := by decide +kernel
theorem dX0_init_16 : decode cX0_init 16 = .ok (.aload_n 0, 1) := by decide +kernel
theorem dX0_init_17 : decode cX0_init 17 = .ok (.getfield 11, 3) := by decide +kernel
theorem dX0_init_20 : decode cX0_init 20 = .ok (.arraylength, 1) := by decide +kernel
theorem dX0_init_21 : decode cX0_init 21 = .ok (.if_icmp .ge 22, 3) := by decide +kernel
theorem dX0_init_24 : decode cX0_init 24 = .ok (.aload_n 0, 1) := by decide +kernel
theorem dX0_init_25 : decode cX0_init 25 = .ok (.getfield 11, 3) := by decide +kernel
theorem dX0_init_28 : decode cX0_init 28 = .ok (.iload_n 1, 1) := by decide +kernel
theorem dX0_init_29 : decode cX0_init 29 = .ok (.new 9, 3) := by decide +kernel
theorem dX0_init_32 : decode cX0_init 32 = .ok (.dup, 1) := by decide +kernel
theorem dX0_init_33 : decode cX0_init 33 = .ok (.invokespecial 17, 3) := by decide +kernel
theorem dX0_init_36 : decode cX0_init 36 = .ok (.aastore, 1) := by decide +kernel
theorem dX0_init_37 : decode cX0_init 37 = .ok (.iinc 1 1, 3) := by decide +kernel
theorem dX0_init_40 : decode cX0_init 40 = .ok (.goto (-25), 3) := by decide +kernel
theorem dX0_init_43 : decode cX0_init 43 = .ok (.return_, 1) := by decide +kernel
theorem dX0_forgetAll_0 : decode cX0_forgetAll 0 = .ok (.aload_n 0, 1) := by decide +kernel
theorem dX0_forgetAll_1 : decode cX0_forgetAll 1 = .ok (.iconst 0, 1) := by decide +kernel
theorem dX0_forgetAll_2 : decode cX0_forgetAll 2 = .ok (.putfield 18, 3) := by decide +kernel
theorem dX0_forgetAll_5 : decode cX0_forgetAll 5 = .ok (.aload_n 0, 1) := by decide +kernel
theorem dX0_forgetAll_6 : decode cX0_forgetAll 6 = .ok (.iconst 0, 1) := by decide +kernel
theorem dX0_forgetAll_7 : decode cX0_forgetAll 7 = .ok (.putfield 22, 3) := by decide +kernel
theorem dX0_forgetAll_10 : decode cX0_forgetAll 10 = .ok (.return_, 1) := by decide +kernel
theorem dX0_record_0 : decode cX0_record 0 = .ok (.aload_n 0, 1) := by decide +kernel
theorem dX0_record_1 : decode cX0_record 1 = .ok (.aload_n 0, 1) := by decide +kernel
theorem dX0_record_2 : decode cX0_record 2 = .ok (.getfield 18, 3) := by decide +kernel
theorem dX0_record_5 : decode cX0_record 5 = .ok (.invokevirtual 25, 3) := by decide +kernel
theorem dX0_record_8 : decode cX0_record 8 = .ok (.astore_n 2, 1) := by decide +kernel
theorem dX0_record_9 : decode cX0_record 9 = .ok (.aload_n 2, 1) := by decide +kernel
theorem dX0_record_10 : decode cX0_record 10 = .ok (.ifnull 8, 3) := by decide +kernel
theorem dX0_record_13 : decode cX0_record 13 = .ok (.aload_n 2, 1) := by decide +kernel
theorem dX0_record_14 : decode cX0_record 14 = .ok (.aload_n 1, 1) := by decide +kernel
theorem dX0_record_15 : decode cX0_record 15 = .ok (.invokevirtual 29, 3) := by decide +kernel
theorem dX0_record_18 : decode cX0_record 18 = .ok (.aload_n 0, 1) := by decide +kernel
theorem dX0_record_19 : decode cX0_record 19 = .ok (.aload_n 0, 1) := by decide +kernel
theorem dX0_record_20 : decode cX0_record 20 = .ok (.getfield 18, 3) := by decide +kernel
theorem dX0_record_23 : decode cX0_record 23 = .ok (.iconst 1, 1) := by decide +kernel
theorem dX0_record_24 : decode cX0_record 24 = .ok (.iadd, 1) := by decide +kernel
theorem dX0_record_25 : decode cX0_record 25 = .ok (.bipush 10, 2) := by decide +kernel
theorem dX0_record_27 : decode cX0_record 27 = .ok (.irem, 1) := by decide +kernel
theorem dX0_record_28 : decode cX0_record 28 = .ok (.putfield 18, 3) := by decide +kernel
theorem dX0_record_31 : decode cX0_record 31 = .ok (.aload_n 0, 1) := by decide +kernel
theorem dX0_record_32 : decode cX0_record 32 = .ok (.aload_n 0, 1) := by decide +kernel
theorem dX0_record_33 : decode cX0_record 33 = .ok (.getfield 22, 3) := by decide +kernel
theorem dX0_record_36 : decode cX0_record 36 = .ok (.iconst 1, 1) := by decide +kernel
theorem dX0_record_37 : decode cX0_record 37 = .ok (.iadd, 1) := by decide +kernel
theorem dX0_record_38 : decode cX0_record 38 = .ok (.bipush 10, 2) := by decide +kernel
theorem dX0_record_40 : decode cX0_record 40 = .ok (.invokestatic 33, 3) := by decide +kernel
theorem dX0_record_43 : decode cX0_record 43 = .ok (.putfield 22, 3) := by decide +kernel
theorem dX0_record_46 : decode cX0_record 46 = .ok (.return_, 1) := by decide +kernel
theorem dX0_takeBack_0 : decode cX0_takeBack 0 = .ok (.aload_n 0, 1) := by decide +kernel
theorem dX0_takeBack_1 : decode cX0_takeBack 1 = .ok (.aload_n 0, 1) := by decide +kernel
theorem dX0_takeBack_2 : decode cX0_takeBack 2 = .ok (.getfield 18, 3) := by decide +kernel
theorem dX0_takeBack_5 : decode cX0_takeBack 5 = .ok (.bipush 10, 2) := by decide +kernel
theorem dX0_takeBack_7 : decode cX0_takeBack 7 = .ok (.iadd, 1) := by decide +kernel
theorem dX0_takeBack_8 : decode cX0_takeBack 8 = .ok (.iconst 1, 1) := by decide +kernel
theorem dX0_takeBack_9 : decode cX0_takeBack 9 = .ok (.isub, 1) := by decide +kernel
theorem dX0_takeBack_10 : decode cX0_takeBack 10 = .ok (.bipush 10, 2) := by decide +kernel
theorem dX0_takeBack_12 : decode cX0_takeBack 12 = .ok (.irem, 1) := by decide +kernel
theorem dX0_takeBack_13 : decode cX0_takeBack 13 = .ok (.putfield 18, 3) := by decide +kernel
theorem dX0_takeBack_16 : decode cX0_takeBack 16 = .ok (.aload_n 0, 1) := by decide +kernel
theorem dX0_takeBack_17 : decode cX0_takeBack 17 = .ok (.aload_n 0, 1) := by decide +kernel
theorem dX0_takeBack_18 : decode cX0_takeBack 18 = .ok (.getfield 22, 3) := by decide +kernel
theorem dX0_takeBack_21 : decode cX0_takeBack 21 = .ok (.iconst 1, 1) := by decide +kernel
theorem dX0_takeBack_22 : decode cX0_takeBack 22 = .ok (.isub, 1) := by decide +kernel
theorem dX0_takeBack_23 : decode cX0_takeBack 23 = .ok (.iconst 0, 1) := by decide +kernel
theorem dX0_takeBack_24 : decode cX0_takeBack 24 = .ok (.invokestatic 39, 3) := by decide +kernel
theorem dX0_takeBack_27 : decode cX0_takeBack 27 = .ok (.putfield 22, 3) := by decide +kernel
theorem dX0_takeBack_30 : decode cX0_takeBack 30 = .ok (.aload_n 0, 1) := by decide +kernel
theorem dX0_takeBack_31 : decode cX0_takeBack 31 = .ok (.aload_n 0, 1) := by decide +kernel
theorem dX0_takeBack_32 : decode cX0_takeBack 32 = .ok (.getfield 18, 3) := by decide +kernel
theorem dX0_takeBack_35 : decode cX0_takeBack 35 = .ok (.invokevirtual 25, 3) := by decide +kernel
theorem dX0_takeBack_38 : decode cX0_takeBack 38 = .ok (.astore_n 2, 1) := by decide +kernel
theorem dX0_takeBack_39 : decode cX0_takeBack 39 = .ok (.aload_n 2, 1) := by decide +kernel
theorem dX0_takeBack_40 : decode cX0_takeBack 40 = .ok (.ifnull 8, 3) := by decide +kernel
theorem dX0_takeBack_43 : decode cX0_takeBack 43 = .ok (.aload_n 1, 1) := by decide +kernel
theorem dX0_takeBack_44 : decode cX0_takeBack 44 = .ok (.aload_n 2, 1) := by decide +kernel
theorem dX0_takeBack_45 : decode cX0_takeBack 45 = .ok (.invokevirtual 29, 3) := by decide +kernel
theorem dX0_takeBack_48 : decode cX0_takeBack 48 = .ok (.return_, 1) := by decide +kernel
theorem dX0_stateAt_0 : decode cX0_stateAt 0 = .ok (.iload_n 1, 1) := by decide +kernel
theorem dX0_stateAt_1 : decode cX0_stateAt 1 = .ok (.ifCond .lt 21, 3) := by decide +kernel
theorem dX0_stateAt_4 : decode cX0_stateAt 4 = .ok (.iload_n 1, 1) := by decide +kernel
theorem dX0_stateAt_5 : decode cX0_stateAt 5 = .ok (.aload_n 0, 1) := by decide +kernel
theorem dX0_stateAt_6 : decode cX0_stateAt 6 = .ok (.getfield 11, 3) := by decide +kernel
theorem dX0_stateAt_9 : decode cX0_stateAt 9 = .ok (.arraylength, 1) := by decide +kernel
theorem dX0_stateAt_10 : decode cX0_stateAt 10 = .ok (.if_icmp .ge 12, 3) := by decide +kernel
theorem dX0_stateAt_13 : decode cX0_stateAt 13 = .ok (.aload_n 0, 1) := by decide +kernel
theorem dX0_stateAt_14 : decode cX0_stateAt 14 = .ok (.getfield 11, 3) := by decide +kernel
theorem dX0_stateAt_17 : decode cX0_stateAt 17 = .ok (.iload_n 1, 1) := by decide +kernel
theorem dX0_stateAt_18 : decode cX0_stateAt 18 = .ok (.aaload, 1) := by decide +kernel
theorem dX0_stateAt_19 : decode cX0_stateAt 19 = .ok (.goto 4, 3) := by decide +kernel
theorem dX0_stateAt_22 : decode cX0_stateAt 22 = .ok (.aconst_null, 1) := by decide +kernel
theorem dX0_stateAt_23 : decode cX0_stateAt 23 = .ok (.areturn, 1) := by decide +kernel
theorem dX1_init_0 : decode cX1_init 0 = .ok (.aload_n 0, 1) := by decide +kernel
theorem dX1_init_1 : decode cX1_init 1 = .ok (.invokespecial 3, 3) := by decide +kernel
theorem dX1_init_4 : decode cX1_init 4 = .ok (.aload_n 0, 1) := by decide +kernel
theorem dX1_init_5 : decode cX1_init 5 = .ok (.new 9, 3) := by decide +kernel
theorem dX1_init_8 : decode cX1_init 8 = .ok (.dup, 1) := by decide +kernel
theorem dX1_init_9 : decode cX1_init 9 = .ok (.invokespecial 11, 3) := by decide +kernel
theorem dX1_init_12 : decode cX1_init 12 = .ok (.putfield 12, 3) := by decide +kernel
theorem dX1_init_15 : decode cX1_init 15 = .ok (.aload_n 0, 1) := by decide +kernel
theorem dX1_init_16 : decode cX1_init 16 = .ok (.sipush 600, 3) := by decide +kernel
theorem dX1_init_19 : decode cX1_init 19 = .ok (.newarray .byte, 2) := by decide +kernel
theorem dX1_init_21 : decode cX1_init 21 = .ok (.putfield 18, 3) := by decide +kernel
theorem dX1_init_24 : decode cX1_init 24 = .ok (.return_, 1) := by decide +kernel
theorem dX1_addByte_0 : decode cX1_addByte 0 = .ok (.aload_n 0, 1) := by decide +kernel
theorem dX1_addByte_1 : decode cX1_addByte 1 = .ok (.getfield 22, 3) := by decide +kernel
theorem dX1_addByte_4 : decode cX1_addByte 4 = .ok (.ifCond .lt 36, 3) := by decide +kernel
theorem dX1_addByte_7 : decode cX1_addByte 7 = .ok (.aload_n 0, 1) := by decide +kernel
theorem dX1_addByte_8 : decode cX1_addByte 8 = .ok (.getfield 22, 3) := by decide +kernel
theorem dX1_addByte_11 : decode cX1_addByte 11 = .ok (.aload_n 0, 1) := by decide +kernel
theorem dX1_addByte_12 : decode cX1_addByte 12 = .ok (.getfield 18, 3) := by decide +kernel
theorem dX1_addByte_15 : decode cX1_addByte 15 = .ok (.arraylength, 1) := by decide +kernel
theorem dX1_addByte_16 : decode cX1_addByte 16 = .ok (.if_icmp .ge 24, 3) := by decide +kernel
theorem dX1_addByte_19 : decode cX1_addByte 19 = .ok (.aload_n 0, 1) := by decide +kernel
theorem dX1_addByte_20 : decode cX1_addByte 20 = .ok (.getfield 18, 3) := by decide +kernel
theorem dX1_addByte_23 : decode cX1_addByte 23 = .ok (.aload_n 0, 1) := by decide +kernel
theorem dX1_addByte_24 : decode cX1_addByte 24 = .ok (.getfield 22, 3) := by decide +kernel
theorem dX1_addByte_27 : decode cX1_addByte 27 = .ok (.iload_n 1, 1) := by decide +kernel
theorem dX1_addByte_28 : decode cX1_addByte 28 = .ok (.i2b, 1) := by decide +kernel
theorem dX1_addByte_29 : decode cX1_addByte 29 = .ok (.bastore, 1) := by decide +kernel
theorem dX1_addByte_30 : decode cX1_addByte 30 = .ok (.aload_n 0, 1) := by decide +kernel
theorem dX1_addByte_31 : decode cX1_addByte 31 = .ok (.dup, 1) := by decide +kernel
theorem dX1_addByte_32 : decode cX1_addByte 32 = .ok (.getfield 22, 3) := by decide +kernel
theorem dX1_addByte_35 : decode cX1_addByte 35 = .ok (.iconst 1, 1) := by decide +kernel
theorem dX1_addByte_36 : decode cX1_addByte 36 = .ok (.iadd, 1) := by decide +kernel
theorem dX1_addByte_37 : decode cX1_addByte 37 = .ok (.putfield 22, 3) := by decide +kernel
theorem dX1_addByte_40 : decode cX1_addByte 40 = .ok (.return_, 1) := by decide +kernel
theorem dX1_emptyBuffer_0 : decode cX1_emptyBuffer 0 = .ok (.aload_n 0, 1) := by decide +kernel
theorem dX1_emptyBuffer_1 : decode cX1_emptyBuffer 1 = .ok (.iconst 0, 1) := by decide +kernel
theorem dX1_emptyBuffer_2 : decode cX1_emptyBuffer 2 = .ok (.putfield 22, 3) := by decide +kernel
theorem dX1_emptyBuffer_5 : decode cX1_emptyBuffer 5 = .ok (.return_, 1) := by decide +kernel
theorem dX1_parse_0 : decode cX1_parse 0 = .ok (.aload_n 0, 1) := by decide +kernel
theorem dX1_parse_1 : decode cX1_parse 1 = .ok (.iload_n 1, 1) := by decide +kernel
theorem dX1_parse_2 : decode cX1_parse 2 = .ok (.putfield 26, 3) := by decide +kernel
theorem dX1_parse_5 : decode cX1_parse 5 = .ok (.aload_n 0, 1) := by decide +kernel
theorem dX1_parse_6 : decode cX1_parse 6 = .ok (.iconst 0, 1) := by decide +kernel
theorem dX1_parse_7 : decode cX1_parse 7 = .ok (.putfield 29, 3) := by decide +kernel
theorem dX1_parse_10 : decode cX1_parse 10 = .ok (.aload_n 0, 1) := by decide +kernel
theorem dX1_parse_11 : decode cX1_parse 11 = .ok (.iconst (-1), 1) := by decide +kernel
theorem dX1_parse_12 : decode cX1_parse 12 = .ok (.putfield 32, 3) := by decide +kernel
theorem dX1_parse_15 : decode cX1_parse 15 = .ok (.aload_n 0, 1) := by decide +kernel
theorem dX1_parse_16 : decode cX1_parse 16 = .ok (.iconst 0, 1) := by decide +kernel
theorem dX1_parse_17 : decode cX1_parse 17 = .ok (.putfield 35, 3) := by decide +kernel
theorem dX1_parse_20 : decode cX1_parse 20 = .ok (.aload_n 0, 1) := by decide +kernel
theorem dX1_parse_21 : decode cX1_parse 21 = .ok (.iconst 0, 1) := by decide +kernel
theorem dX1_parse_22 : decode cX1_parse 22 = .ok (.putfield 38, 3) := by decide +kernel
theorem dX1_parse_25 : decode cX1_parse 25 = .ok (.aload_n 0, 1) := by decide +kernel
theorem dX1_parse_26 : decode cX1_parse 26 = .ok (.iconst 0, 1) := by decide +kernel
theorem dX1_parse_27 : decode cX1_parse 27 = .ok (.putfield 41, 3) := by decide +kernel
theorem dX1_parse_30 : decode cX1_parse 30 = .ok (.aload_n 0, 1) := by decide +kernel
theorem dX1_parse_31 : decode cX1_parse 31 = .ok (.invokevirtual 44, 3) := by decide +kernel
theorem dX1_parse_34 : decode cX1_parse 34 = .ok (.iconst 0, 1) := by decide +kernel
theorem dX1_parse_35 : decode cX1_parse 35 = .ok (.istore_n 2, 1) := by decide +kernel
theorem dX1_parse_36 : decode cX1_parse 36 = .ok (.iload_n 2, 1) := by decide +kernel
theorem dX1_parse_37 : decode cX1_parse 37 = .ok (.aload_n 0, 1) := by decide +kernel
theorem dX1_parse_38 : decode cX1_parse 38 = .ok (.getfield 26, 3) := by decide +kernel
theorem dX1_parse_41 : decode cX1_parse 41 = .ok (.if_icmp .ge 128, 3) := by decide +kernel
theorem dX1_parse_44 : decode cX1_parse 44 = .ok (.aload_n 0, 1) := by decide +kernel
theorem dX1_parse_45 : decode cX1_parse 45 = .ok (.getfield 29, 3) := by decide +kernel
theorem dX1_parse_48 : decode cX1_parse 48 = .ok (.ifCond .ne 121, 3) := by decide +kernel
theorem dX1_parse_51 : decode cX1_parse 51 = .ok (.aload_n 0, 1) := by decide +kernel
theorem dX1_parse_52 : decode cX1_parse 52 = .ok (.invokevirtual 47, 3) := by decide +kernel
theorem dX1_parse_55 : decode cX1_parse 55 = .ok (.ifCond .eq 114, 3) := by decide +kernel
theorem dX1_parse_58 : decode cX1_parse 58 = .ok (.aload_n 0, 1) := by decide +kernel
theorem dX1_parse_59 : decode cX1_parse 59 = .ok (.invokevirtual 51, 3) := by decide +kernel
theorem dX1_parse_62 : decode cX1_parse 62 = .ok (.aload_n 0, 1) := by decide +kernel
theorem dX1_parse_63 : decode cX1_parse 63 = .ok (.ldc 54, 2) := by decide +kernel
theorem dX1_parse_65 : decode cX1_parse 65 = .ok (.invokevirtual 56, 3) := by decide +kernel
theorem dX1_parse_68 : decode cX1_parse 68 = .ok (.ifCond .eq 10, 3) := by decide +kernel
theorem dX1_parse_71 : decode cX1_parse 71 = .ok (.aload_n 0, 1) := by decide +kernel
theorem dX1_parse_72 : decode cX1_parse 72 = .ok (.invokevirtual 60, 3) := by decide +kernel
theorem dX1_parse_75 : decode cX1_parse 75 = .ok (.goto 88, 3) := by decide +kernel
theorem dX1_parse_78 : decode cX1_parse 78 = .ok (.aload_n 0, 1) := by decide +kernel
theorem dX1_parse_79 : decode cX1_parse 79 = .ok (.ldc 63, 2) := by decide +kernel
theorem dX1_parse_81 : decode cX1_parse 81 = .ok (.invokevirtual 56, 3) := by decide +kernel
theorem dX1_parse_84 : decode cX1_parse 84 = .ok (.ifCond .eq 10, 3) := by decide +kernel
theorem dX1_parse_87 : decode cX1_parse 87 = .ok (.aload_n 0, 1) := by decide +kernel
theorem dX1_parse_88 : decode cX1_parse 88 = .ok (.invokevirtual 65, 3) := by decide +kernel
theorem dX1_parse_91 : decode cX1_parse 91 = .ok (.goto 72, 3) := by decide +kernel
theorem dX1_parse_94 : decode cX1_parse 94 = .ok (.aload_n 0, 1) := by decide +kernel
theorem dX1_parse_95 : decode cX1_parse 95 = .ok (.ldc 68, 2) := by decide +kernel
theorem dX1_parse_97 : decode cX1_parse 97 = .ok (.invokevirtual 56, 3) := by decide +kernel
theorem dX1_parse_100 : decode cX1_parse 100 = .ok (.ifCond .eq 10, 3) := by decide +kernel
theorem dX1_parse_103 : decode cX1_parse 103 = .ok (.aload_n 0, 1) := by decide +kernel
theorem dX1_parse_104 : decode cX1_parse 104 = .ok (.invokevirtual 70, 3) := by decide +kernel
theorem dX1_parse_107 : decode cX1_parse 107 = .ok (.goto 56, 3) := by decide +kernel
theorem dX1_parse_110 : decode cX1_parse 110 = .ok (.aload_n 0, 1) := by decide +kernel
theorem dX1_parse_111 : decode cX1_parse 111 = .ok (.ldc 73, 2) := by decide +kernel
theorem dX1_parse_113 : decode cX1_parse 113 = .ok (.invokevirtual 56, 3) := by decide +kernel
theorem dX1_parse_116 : decode cX1_parse 116 = .ok (.ifCond .eq 10, 3) := by decide +kernel
theorem dX1_parse_119 : decode cX1_parse 119 = .ok (.aload_n 0, 1) := by decide +kernel
theorem dX1_parse_120 : decode cX1_parse 120 = .ok (.invokevirtual 75, 3) := by decide +kernel
theorem dX1_parse_123 : decode cX1_parse 123 = .ok (.goto 40, 3) := by decide +kernel
theorem dX1_parse_126 : decode cX1_parse 126 = .ok (.aload_n 0, 1) := by decide +kernel
theorem dX1_parse_127 : decode cX1_parse 127 = .ok (.ldc 78, 2) := by decide +kernel
theorem dX1_parse_129 : decode cX1_parse 129 = .ok (.invokevirtual 56, 3) := by decide +kernel
theorem dX1_parse_132 : decode cX1_parse 132 = .ok (.ifCond .eq 10, 3) := by decide +kernel
theorem dX1_parse_135 : decode cX1_parse 135 = .ok (.aload_n 0, 1) := by decide +kernel
theorem dX1_parse_136 : decode cX1_parse 136 = .ok (.invokevirtual 80, 3) := by decide +kernel
theorem dX1_parse_139 : decode cX1_parse 139 = .ok (.goto 24, 3) := by decide +kernel
theorem dX1_parse_142 : decode cX1_parse 142 = .ok (.aload_n 0, 1) := by decide +kernel
theorem dX1_parse_143 : decode cX1_parse 143 = .ok (.ldc 83, 2) := by decide +kernel
theorem dX1_parse_145 : decode cX1_parse 145 = .ok (.invokevirtual 56, 3) := by decide +kernel
theorem dX1_parse_148 : decode cX1_parse 148 = .ok (.ifCond .eq 10, 3) := by decide +kernel
theorem dX1_parse_151 : decode cX1_parse 151 = .ok (.aload_n 0, 1) := by decide +kernel
theorem dX1_parse_152 : decode cX1_parse 152 = .ok (.invokevirtual 85, 3) := by decide +kernel
theorem dX1_parse_155 : decode cX1_parse 155 = .ok (.goto 8, 3) := by decide +kernel
theorem dX1_parse_158 : decode cX1_parse 158 = .ok (.aload_n 0, 1) := by decide +kernel
theorem dX1_parse_159 : decode cX1_parse 159 = .ok (.iconst 1, 1) := by decide +kernel
theorem dX1_parse_160 : decode cX1_parse 160 = .ok (.invokevirtual 88, 3) := by decide +kernel
theorem dX1_parse_163 : decode cX1_parse 163 = .ok (.iinc 2 1, 3) := by decide +kernel
theorem dX1_parse_166 : decode cX1_parse 166 = .ok (.goto (-130), 3) := by decide +kernel
theorem dX1_parse_169 : decode cX1_parse 169 = .ok (.return_, 1) := by decide +kernel
theorem dX1_readHead_0 : decode cX1_readHead 0 = .ok (.aload_n 0, 1) := by decide +kernel
theorem dX1_readHead_1 : decode cX1_readHead 1 = .ok (.invokevirtual 51, 3) := by decide +kernel
theorem dX1_readHead_4 : decode cX1_readHead 4 = .ok (.aload_n 0, 1) := by decide +kernel
theorem dX1_readHead_5 : decode cX1_readHead 5 = .ok (.ldc 92, 2) := by decide +kernel
theorem dX1_readHead_7 : decode cX1_readHead 7 = .ok (.invokevirtual 56, 3) := by decide +kernel
theorem dX1_readHead_10 : decode cX1_readHead 10 = .ok (.ifCond .ne 8, 3) := by decide +kernel
theorem dX1_readHead_13 : decode cX1_readHead 13 = .ok (.aload_n 0, 1) := by decide +kernel
theorem dX1_readHead_14 : decode cX1_readHead 14 = .ok (.iconst 1, 1) := by decide +kernel
theorem dX1_readHead_15 : decode cX1_readHead 15 = .ok (.invokevirtual 88, 3) := by decide +kernel
theorem dX1_readHead_18 : decode cX1_readHead 18 = .ok (.aload_n 0, 1) := by decide +kernel
theorem dX1_readHead_19 : decode cX1_readHead 19 = .ok (.iconst 0, 1) := by decide +kernel
theorem dX1_readHead_20 : decode cX1_readHead 20 = .ok (.sipush 9972, 3) := by decide +kernel
theorem dX1_readHead_23 : decode cX1_readHead 23 = .ok (.invokevirtual 94, 3) := by decide +kernel
theorem dX1_readHead_26 : decode cX1_readHead 26 = .ok (.istore_n 1, 1) := by decide +kernel
theorem dX1_readHead_27 : decode cX1_readHead 27 = .ok (.aload_n 0, 1) := by decide +kernel
theorem dX1_readHead_28 : decode cX1_readHead 28 = .ok (.iconst 0, 1) := by decide +kernel
theorem dX1_readHead_29 : decode cX1_readHead 29 = .ok (.sipush 9999, 3) := by decide +kernel
theorem dX1_readHead_32 : decode cX1_readHead 32 = .ok (.invokevirtual 94, 3) := by decide +kernel
theorem dX1_readHead_35 : decode cX1_readHead 35 = .ok (.istore_n 2, 1) := by decide +kernel
theorem dX1_readHead_36 : decode cX1_readHead 36 = .ok (.aload_n 0, 1) := by decide +kernel
theorem dX1_readHead_37 : decode cX1_readHead 37 = .ok (.getfield 12, 3) := by decide +kernel
theorem dX1_readHead_40 : decode cX1_readHead 40 = .ok (.iload_n 1, 1) := by decide +kernel
theorem dX1_readHead_41 : decode cX1_readHead 41 = .ok (.iload_n 2, 1) := by decide +kernel
theorem dX1_readHead_42 : decode cX1_readHead 42 = .ok (.invokevirtual 98, 3) := by decide +kernel
theorem dX1_readHead_45 : decode cX1_readHead 45 = .ok (.return_, 1) := by decide +kernel
theorem dX1_nextIsLine_0 : decode cX1_nextIsLine 0 = .ok (.aload_n 0, 1) := by decide +kernel
theorem dX1_nextIsLine_1 : decode cX1_nextIsLine 1 = .ok (.invokevirtual 51, 3) := by decide +kernel
theorem dX1_nextIsLine_4 : decode cX1_nextIsLine 4 = .ok (.aload_n 0, 1) := by decide +kernel
theorem dX1_nextIsLine_5 : decode cX1_nextIsLine 5 = .ok (.getfield 35, 3) := by decide +kernel
theorem dX1_nextIsLine_8 : decode cX1_nextIsLine 8 = .ok (.iconst 3, 1) := by decide +kernel
theorem dX1_nextIsLine_9 : decode cX1_nextIsLine 9 = .ok (.if_icmp .eq 16, 3) := by decide +kernel
theorem dX1_nextIsLine_12 : decode cX1_nextIsLine 12 = .ok (.aload_n 0, 1) := by decide +kernel
theorem dX1_nextIsLine_13 : decode cX1_nextIsLine 13 = .ok (.getfield 35, 3) := by decide +kernel
theorem dX1_nextIsLine_16 : decode cX1_nextIsLine 16 = .ok (.iconst 4, 1) := by decide +kernel
theorem dX1_nextIsLine_17 : decode cX1_nextIsLine 17 = .ok (.if_icmp .eq 8, 3) := by decide +kernel
theorem dX1_nextIsLine_20 : decode cX1_nextIsLine 20 = .ok (.aload_n 0, 1) := by decide +kernel
theorem dX1_nextIsLine_21 : decode cX1_nextIsLine 21 = .ok (.iconst 1, 1) := by decide +kernel
theorem dX1_nextIsLine_22 : decode cX1_nextIsLine 22 = .ok (.invokevirtual 88, 3) := by decide +kernel
theorem dX1_nextIsLine_25 : decode cX1_nextIsLine 25 = .ok (.aload_n 0, 1) := by decide +kernel
theorem dX1_nextIsLine_26 : decode cX1_nextIsLine 26 = .ok (.getfield 35, 3) := by decide +kernel
theorem dX1_nextIsLine_29 : decode cX1_nextIsLine 29 = .ok (.iconst 3, 1) := by decide +kernel
theorem dX1_nextIsLine_30 : decode cX1_nextIsLine 30 = .ok (.if_icmp .ne 7, 3) := by decide +kernel
theorem dX1_nextIsLine_33 : decode cX1_nextIsLine 33 = .ok (.iconst 1, 1) := by decide +kernel
theorem dX1_nextIsLine_34 : decode cX1_nextIsLine 34 = .ok (.goto 4, 3) := by decide +kernel
theorem dX1_nextIsLine_37 : decode cX1_nextIsLine 37 = .ok (.iconst 0, 1) := by decide +kernel
theorem dX1_nextIsLine_38 : decode cX1_nextIsLine 38 = .ok (.ireturn, 1) := by decide +kernel
theorem dX1_readGarden_0 : decode cX1_readGarden 0 = .ok (.aload_n 0, 1) := by decide +kernel
theorem dX1_readGarden_1 : decode cX1_readGarden 1 = .ok (.getfield 12, 3) := by decide +kernel
theorem dX1_readGarden_4 : decode cX1_readGarden 4 = .ok (.getfield 102, 3) := by decide +kernel
theorem dX1_readGarden_7 : decode cX1_readGarden 7 = .ok (.iconst 4, 1) := by decide +kernel
theorem dX1_readGarden_8 : decode cX1_readGarden 8 = .ok (.if_icmp .lt 8, 3) := by decide +kernel
theorem dX1_readGarden_11 : decode cX1_readGarden 11 = .ok (.aload_n 0, 1) := by decide +kernel
theorem dX1_readGarden_12 : decode cX1_readGarden 12 = .ok (.iconst 5, 1) := by decide +kernel
theorem dX1_readGarden_13 : decode cX1_readGarden 13 = .ok (.invokevirtual 88, 3) := by decide +kernel
theorem dX1_readGarden_16 : decode cX1_readGarden 16 = .ok (.aload_n 0, 1) := by decide +kernel
theorem dX1_readGarden_17 : decode cX1_readGarden 17 = .ok (.iconst 1, 1) := by decide +kernel
theorem dX1_readGarden_18 : decode cX1_readGarden 18 = .ok (.bipush 12, 2) := by decide +kernel
theorem dX1_readGarden_20 : decode cX1_readGarden 20 = .ok (.invokevirtual 94, 3) := by decide +kernel
theorem dX1_readGarden_23 : decode cX1_readGarden 23 = .ok (.istore_n 1, 1) := by decide +kernel
theorem dX1_readGarden_24 : decode cX1_readGarden 24 = .ok (.aload_n 0, 1) := by decide +kernel
theorem dX1_readGarden_25 : decode cX1_readGarden 25 = .ok (.getfield 29, 3) := by decide +kernel
theorem dX1_readGarden_28 : decode cX1_readGarden 28 = .ok (.ifCond .ne 11, 3) := by decide +kernel
theorem dX1_readGarden_31 : decode cX1_readGarden 31 = .ok (.aload_n 0, 1) := by decide +kernel
theorem dX1_readGarden_32 : decode cX1_readGarden 32 = .ok (.getfield 12, 3) := by decide +kernel
theorem dX1_readGarden_35 : decode cX1_readGarden 35 = .ok (.iload_n 1, 1) := by decide +kernel
theorem dX1_readGarden_36 : decode cX1_readGarden 36 = .ok (.invokevirtual 105, 3) := by decide +kernel
theorem dX1_readGarden_39 : decode cX1_readGarden 39 = .ok (.return_, 1) := by decide +kernel
theorem dX1_readChild_0 : decode cX1_readChild 0 = .ok (.aload_n 0, 1) := by decide +kernel
theorem dX1_readChild_1 : decode cX1_readChild 1 = .ok (.getfield 12, 3) := by decide +kernel
theorem dX1_readChild_4 : decode cX1_readChild 4 = .ok (.getfield 108, 3) := by decide +kernel
theorem dX1_readChild_7 : decode cX1_readChild 7 = .ok (.bipush 10, 2) := by decide +kernel
theorem dX1_readChild_9 : decode cX1_readChild 9 = .ok (.if_icmp .lt 8, 3) := by decide +kernel
theorem dX1_readChild_12 : decode cX1_readChild 12 = .ok (.aload_n 0, 1) := by decide +kernel
theorem dX1_readChild_13 : decode cX1_readChild 13 = .ok (.iconst 5, 1) := by decide +kernel
theorem dX1_readChild_14 : decode cX1_readChild 14 = .ok (.invokevirtual 88, 3) := by decide +kernel
theorem dX1_readChild_17 : decode cX1_readChild 17 = .ok (.aload_n 0, 1) := by decide +kernel
theorem dX1_readChild_18 : decode cX1_readChild 18 = .ok (.invokevirtual 111, 3) := by decide +kernel
theorem dX1_readChild_21 : decode cX1_readChild 21 = .ok (.istore_n 1, 1) := by decide +kernel
theorem dX1_readChild_22 : decode cX1_readChild 22 = .ok (.aload_n 0, 1) := by decide +kernel
theorem dX1_readChild_23 : decode cX1_readChild 23 = .ok (.getfield 12, 3) := by decide +kernel
theorem dX1_readChild_26 : decode cX1_readChild 26 = .ok (.iload_n 1, 1) := by decide +kernel
theorem dX1_readChild_27 : decode cX1_readChild 27 = .ok (.invokevirtual 115, 3) := by decide +kernel
theorem dX1_readChild_30 : decode cX1_readChild 30 = .ok (.iconst (-1), 1) := by decide +kernel
theorem dX1_readChild_31 : decode cX1_readChild 31 = .ok (.if_icmp .eq 8, 3) := by decide +kernel
theorem dX1_readChild_34 : decode cX1_readChild 34 = .ok (.aload_n 0, 1) := by decide +kernel
theorem dX1_readChild_35 : decode cX1_readChild 35 = .ok (.iconst 4, 1) := by decide +kernel
theorem dX1_readChild_36 : decode cX1_readChild 36 = .ok (.invokevirtual 88, 3) := by decide +kernel
theorem dX1_readChild_39 : decode cX1_readChild 39 = .ok (.aload_n 0, 1) := by decide +kernel
theorem dX1_readChild_40 : decode cX1_readChild 40 = .ok (.iconst 0, 1) := by decide +kernel
theorem dX1_readChild_41 : decode cX1_readChild 41 = .ok (.iconst 5, 1) := by decide +kernel
theorem dX1_readChild_42 : decode cX1_readChild 42 = .ok (.invokevirtual 94, 3) := by decide +kernel
theorem dX1_readChild_45 : decode cX1_readChild 45 = .ok (.istore_n 2, 1) := by decide +kernel
theorem dX1_readChild_46 : decode cX1_readChild 46 = .ok (.aload_n 0, 1) := by decide +kernel
theorem dX1_readChild_47 : decode cX1_readChild 47 = .ok (.iconst 1, 1) := by decide +kernel
theorem dX1_readChild_48 : decode cX1_readChild 48 = .ok (.bipush 20, 2) := by decide +kernel
theorem dX1_readChild_50 : decode cX1_readChild 50 = .ok (.invokevirtual 94, 3) := by decide +kernel
theorem dX1_readChild_53 : decode cX1_readChild 53 = .ok (.istore_n 3, 1) := by decide +kernel
theorem dX1_readChild_54 : decode cX1_readChild 54 = .ok (.aload_n 0, 1) := by decide +kernel
theorem dX1_readChild_55 : decode cX1_readChild 55 = .ok (.iconst 0, 1) := by decide +kernel
theorem dX1_readChild_56 : decode cX1_readChild 56 = .ok (.bipush 99, 2) := by decide +kernel
theorem dX1_readChild_58 : decode cX1_readChild 58 = .ok (.invokevirtual 94, 3) := by decide +kernel
theorem dX1_readChild_61 : decode cX1_readChild 61 = .ok (.istore 4, 2) := by decide +kernel
theorem dX1_readChild_63 : decode cX1_readChild 63 = .ok (.aload_n 0, 1) := by decide +kernel
theorem dX1_readChild_64 : decode cX1_readChild 64 = .ok (.iconst 0, 1) := by decide +kernel
theorem dX1_readChild_65 : decode cX1_readChild 65 = .ok (.aload_n 0, 1) := by decide +kernel
theorem dX1_readChild_66 : decode cX1_readChild 66 = .ok (.getfield 12, 3) := by decide +kernel
theorem dX1_readChild_69 : decode cX1_readChild 69 = .ok (.getfield 102, 3) := by decide +kernel
theorem dX1_readChild_72 : decode cX1_readChild 72 = .ok (.iconst 1, 1) := by decide +kernel
theorem dX1_readChild_73 : decode cX1_readChild 73 = .ok (.isub, 1) := by decide +kernel
theorem dX1_readChild_74 : decode cX1_readChild 74 = .ok (.invokevirtual 94, 3) := by decide +kernel
theorem dX1_readChild_77 : decode cX1_readChild 77 = .ok (.istore 5, 2) := by decide +kernel
theorem dX1_readChild_79 : decode cX1_readChild 79 = .ok (.aload_n 0, 1) := by decide +kernel
theorem dX1_readChild_80 : decode cX1_readChild 80 = .ok (.getfield 29, 3) := by decide +kernel
theorem dX1_readChild_83 : decode cX1_readChild 83 = .ok (.ifCond .ne 17, 3) := by decide +kernel
theorem dX1_readChild_86 : decode cX1_readChild 86 = .ok (.aload_n 0, 1) := by decide +kernel
theorem dX1_readChild_87 : decode cX1_readChild 87 = .ok (.getfield 12, 3) := by decide +kernel
theorem dX1_readChild_90 : decode cX1_readChild 90 = .ok (.iload_n 1, 1) := by decide +kernel
theorem dX1_readChild_91 : decode cX1_readChild 91 = .ok (.iload_n 2, 1) := by decide +kernel
theorem dX1_readChild_92 : decode cX1_readChild 92 = .ok (.iload_n 3, 1) := by decide +kernel
theorem dX1_readChild_93 : decode cX1_readChild 93 = .ok (.iload 4, 2) := by decide +kernel
theorem dX1_readChild_95 : decode cX1_readChild 95 = .ok (.iload 5, 2) := by decide +kernel
theorem dX1_readChild_97 : decode cX1_readChild 97 = .ok (.invokevirtual 119, 3) := by decide +kernel
theorem dX1_readChild_100 : decode cX1_readChild 100 = .ok (.return_, 1) := by decide +kernel
theorem dX1_readBirthday_0 : decode cX1_readBirthday 0 = .ok (.aload_n 0, 1) := by decide +kernel
theorem dX1_readBirthday_1 : decode cX1_readBirthday 1 = .ok (.invokevirtual 123, 3) := by decide +kernel
theorem dX1_readBirthday_4 : decode cX1_readBirthday 4 = .ok (.istore_n 1, 1) := by decide +kernel
theorem dX1_readBirthday_5 : decode cX1_readBirthday 5 = .ok (.aload_n 0, 1) := by decide +kernel
theorem dX1_readBirthday_6 : decode cX1_readBirthday 6 = .ok (.iconst 1, 1) := by decide +kernel
theorem dX1_readBirthday_7 : decode cX1_readBirthday 7 = .ok (.bipush 12, 2) := by decide +kernel
theorem dX1_readBirthday_9 : decode cX1_readBirthday 9 = .ok (.invokevirtual 94, 3) := by decide +kernel
theorem dX1_readBirthday_12 : decode cX1_readBirthday 12 = .ok (.istore_n 2, 1) := by decide +kernel
theorem dX1_readBirthday_13 : decode cX1_readBirthday 13 = .ok (.aload_n 0, 1) := by decide +kernel
theorem dX1_readBirthday_14 : decode cX1_readBirthday 14 = .ok (.iconst 1, 1) := by decide +kernel
theorem dX1_readBirthday_15 : decode cX1_readBirthday 15 = .ok (.bipush 30, 2) := by decide +kernel
theorem dX1_readBirthday_17 : decode cX1_readBirthday 17 = .ok (.invokevirtual 94, 3) := by decide +kernel
theorem dX1_readBirthday_20 : decode cX1_readBirthday 20 = .ok (.istore_n 3, 1) := by decide +kernel
theorem dX1_readBirthday_21 : decode cX1_readBirthday 21 = .ok (.aload_n 0, 1) := by decide +kernel
theorem dX1_readBirthday_22 : decode cX1_readBirthday 22 = .ok (.getfield 29, 3) := by decide +kernel
theorem dX1_readBirthday_25 : decode cX1_readBirthday 25 = .ok (.ifCond .eq 4, 3) := by decide +kernel
theorem dX1_readBirthday_28 : decode cX1_readBirthday 28 = .ok (.return_, 1) := by decide +kernel
theorem dX1_readBirthday_29 : decode cX1_readBirthday 29 = .ok (.iload_n 2, 1) := by decide +kernel
theorem dX1_readBirthday_30 : decode cX1_readBirthday 30 = .ok (.iload_n 3, 1) := by decide +kernel
theorem dX1_readBirthday_31 : decode cX1_readBirthday 31 = .ok (.invokestatic 126, 3) := by decide +kernel
theorem dX1_readBirthday_34 : decode cX1_readBirthday 34 = .ok (.istore 4, 2) := by decide +kernel
theorem dX1_readBirthday_36 : decode cX1_readBirthday 36 = .ok (.aload_n 0, 1) := by decide +kernel
theorem dX1_readBirthday_37 : decode cX1_readBirthday 37 = .ok (.getfield 12, 3) := by decide +kernel
theorem dX1_readBirthday_40 : decode cX1_readBirthday 40 = .ok (.iload_n 1, 1) := by decide +kernel
theorem dX1_readBirthday_41 : decode cX1_readBirthday 41 = .ok (.aload_n 0, 1) := by decide +kernel
theorem dX1_readBirthday_42 : decode cX1_readBirthday 42 = .ok (.getfield 12, 3) := by decide +kernel
theorem dX1_readBirthday_45 : decode cX1_readBirthday 45 = .ok (.getfield 129, 3) := by decide +kernel
theorem dX1_readBirthday_48 : decode cX1_readBirthday 48 = .ok (.iload_n 1, 1) := by decide +kernel
theorem dX1_readBirthday_49 : decode cX1_readBirthday 49 = .ok (.invokestatic 133, 3) := by decide +kernel
theorem dX1_readBirthday_52 : decode cX1_readBirthday 52 = .ok (.iload 4, 2) := by decide +kernel
theorem dX1_readBirthday_54 : decode cX1_readBirthday 54 = .ok (.invokevirtual 137, 3) := by decide +kernel
theorem dX1_readBirthday_57 : decode cX1_readBirthday 57 = .ok (.ifCond .eq 12, 3) := by decide +kernel
theorem dX1_readBirthday_60 : decode cX1_readBirthday 60 = .ok (.aload_n 0, 1) := by decide +kernel
theorem dX1_readBirthday_61 : decode cX1_readBirthday 61 = .ok (.bipush 6, 2) := by decide +kernel
theorem dX1_readBirthday_63 : decode cX1_readBirthday 63 = .ok (.invokevirtual 88, 3) := by decide +kernel
theorem dX1_readBirthday_66 : decode cX1_readBirthday 66 = .ok (.goto 16, 3) := by decide +kernel
theorem dX1_readBirthday_69 : decode cX1_readBirthday 69 = .ok (.aload_n 0, 1) := by decide +kernel
theorem dX1_readBirthday_70 : decode cX1_readBirthday 70 = .ok (.getfield 12, 3) := by decide +kernel
theorem dX1_readBirthday_73 : decode cX1_readBirthday 73 = .ok (.getfield 141, 3) := by decide +kernel
theorem dX1_readBirthday_76 : decode cX1_readBirthday 76 = .ok (.iload_n 1, 1) := by decide +kernel
theorem dX1_readBirthday_77 : decode cX1_readBirthday 77 = .ok (.iload 4, 2) := by decide +kernel
theorem dX1_readBirthday_79 : decode cX1_readBirthday 79 = .ok (.invokestatic 144, 3) := by decide +kernel
theorem dX1_readBirthday_82 : decode cX1_readBirthday 82 = .ok (.return_, 1) := by decide +kernel
theorem dX1_readDraw_0 : decode cX1_readDraw 0 = .ok (.aload_n 0, 1) := by decide +kernel
theorem dX1_readDraw_1 : decode cX1_readDraw 1 = .ok (.invokevirtual 123, 3) := by decide +kernel
theorem dX1_readDraw_4 : decode cX1_readDraw 4 = .ok (.istore_n 1, 1) := by decide +kernel
theorem dX1_readDraw_5 : decode cX1_readDraw 5 = .ok (.aload_n 0, 1) := by decide +kernel
theorem dX1_readDraw_6 : decode cX1_readDraw 6 = .ok (.getfield 29, 3) := by decide +kernel
theorem dX1_readDraw_9 : decode cX1_readDraw 9 = .ok (.ifCond .eq 4, 3) := by decide +kernel
theorem dX1_readDraw_12 : decode cX1_readDraw 12 = .ok (.return_, 1) := by decide +kernel
theorem dX1_readDraw_13 : decode cX1_readDraw 13 = .ok (.aload_n 0, 1) := by decide +kernel
theorem dX1_readDraw_14 : decode cX1_readDraw 14 = .ok (.getfield 12, 3) := by decide +kernel
theorem dX1_readDraw_17 : decode cX1_readDraw 17 = .ok (.iload_n 1, 1) := by decide +kernel
theorem dX1_readDraw_18 : decode cX1_readDraw 18 = .ok (.invokevirtual 148, 3) := by decide +kernel
theorem dX1_readDraw_21 : decode cX1_readDraw 21 = .ok (.istore_n 2, 1) := by decide +kernel
theorem dX1_readDraw_22 : decode cX1_readDraw 22 = .ok (.iload_n 2, 1) := by decide +kernel
theorem dX1_readDraw_23 : decode cX1_readDraw 23 = .ok (.iconst (-1), 1) := by decide +kernel
theorem dX1_readDraw_24 : decode cX1_readDraw 24 = .ok (.if_icmp .ne 12, 3) := by decide +kernel
theorem dX1_readDraw_27 : decode cX1_readDraw 27 = .ok (.aload_n 0, 1) := by decide +kernel
theorem dX1_readDraw_28 : decode cX1_readDraw 28 = .ok (.bipush 6, 2) := by decide +kernel
theorem dX1_readDraw_30 : decode cX1_readDraw 30 = .ok (.invokevirtual 88, 3) := by decide +kernel
theorem dX1_readDraw_33 : decode cX1_readDraw 33 = .ok (.goto 12, 3) := by decide +kernel
theorem dX1_readDraw_36 : decode cX1_readDraw 36 = .ok (.aload_n 0, 1) := by decide +kernel
theorem dX1_readDraw_37 : decode cX1_readDraw 37 = .ok (.getfield 12, 3) := by decide +kernel
theorem dX1_readDraw_40 : decode cX1_readDraw 40 = .ok (.iload_n 1, 1) := by decide +kernel
theorem dX1_readDraw_41 : decode cX1_readDraw 41 = .ok (.iload_n 2, 1) := by decide +kernel
theorem dX1_readDraw_42 : decode cX1_readDraw 42 = .ok (.invokevirtual 151, 3) := by decide +kernel
theorem dX1_readDraw_45 : decode cX1_readDraw 45 = .ok (.return_, 1) := by decide +kernel
theorem dX1_readCakes_0 : decode cX1_readCakes 0 = .ok (.aload_n 0, 1) := by decide +kernel
theorem dX1_readCakes_1 : decode cX1_readCakes 1 = .ok (.iconst 0, 1) := by decide +kernel
theorem dX1_readCakes_2 : decode cX1_readCakes 2 = .ok (.iconst 5, 1) := by decide +kernel
theorem dX1_readCakes_3 : decode cX1_readCakes 3 = .ok (.invokevirtual 94, 3) := by decide +kernel
theorem dX1_readCakes_6 : decode cX1_readCakes 6 = .ok (.istore_n 1, 1) := by decide +kernel
theorem dX1_readCakes_7 : decode cX1_readCakes 7 = .ok (.aload_n 0, 1) := by decide +kernel
theorem dX1_readCakes_8 : decode cX1_readCakes 8 = .ok (.iconst 1, 1) := by decide +kernel
theorem dX1_readCakes_9 : decode cX1_readCakes 9 = .ok (.bipush 99, 2) := by decide +kernel
theorem dX1_readCakes_11 : decode cX1_readCakes 11 = .ok (.aload_n 0, 1) := by decide +kernel
theorem dX1_readCakes_12 : decode cX1_readCakes 12 = .ok (.getfield 12, 3) := by decide +kernel
theorem dX1_readCakes_15 : decode cX1_readCakes 15 = .ok (.getfield 154, 3) := by decide +kernel
theorem dX1_readCakes_18 : decode cX1_readCakes 18 = .ok (.iload_n 1, 1) := by decide +kernel
theorem dX1_readCakes_19 : decode cX1_readCakes 19 = .ok (.invokestatic 133, 3) := by decide +kernel
theorem dX1_readCakes_22 : decode cX1_readCakes 22 = .ok (.isub, 1) := by decide +kernel
theorem dX1_readCakes_23 : decode cX1_readCakes 23 = .ok (.invokevirtual 94, 3) := by decide +kernel
theorem dX1_readCakes_26 : decode cX1_readCakes 26 = .ok (.istore_n 2, 1) := by decide +kernel
theorem dX1_readCakes_27 : decode cX1_readCakes 27 = .ok (.aload_n 0, 1) := by decide +kernel
theorem dX1_readCakes_28 : decode cX1_readCakes 28 = .ok (.getfield 29, 3) := by decide +kernel
theorem dX1_readCakes_31 : decode cX1_readCakes 31 = .ok (.ifCond .ne 15, 3) := by decide +kernel
theorem dX1_readCakes_34 : decode cX1_readCakes 34 = .ok (.aload_n 0, 1) := by decide +kernel
theorem dX1_readCakes_35 : decode cX1_readCakes 35 = .ok (.getfield 12, 3) := by decide +kernel
theorem dX1_readCakes_38 : decode cX1_readCakes 38 = .ok (.getfield 154, 3) := by decide +kernel
theorem dX1_readCakes_41 : decode cX1_readCakes 41 = .ok (.iload_n 1, 1) := by decide +kernel
theorem dX1_readCakes_42 : decode cX1_readCakes 42 = .ok (.iload_n 2, 1) := by decide +kernel
theorem dX1_readCakes_43 : decode cX1_readCakes 43 = .ok (.invokestatic 157, 3) := by decide +kernel
theorem dX1_readCakes_46 : decode cX1_readCakes 46 = .ok (.return_, 1) := by decide +kernel
theorem dX1_readDays_0 : decode cX1_readDays 0 = .ok (.aload_n 0, 1) := by decide +kernel
theorem dX1_readDays_1 : decode cX1_readDays 1 = .ok (.iconst 1, 1) := by decide +kernel
theorem dX1_readDays_2 : decode cX1_readDays 2 = .ok (.sipush 720, 3) := by decide +kernel
theorem dX1_readDays_5 : decode cX1_readDays 5 = .ok (.aload_n 0, 1) := by decide +kernel
theorem dX1_readDays_6 : decode cX1_readDays 6 = .ok (.getfield 12, 3) := by decide +kernel
theorem dX1_readDays_9 : decode cX1_readDays 9 = .ok (.invokevirtual 160, 3) := by decide +kernel
theorem dX1_readDays_12 : decode cX1_readDays 12 = .ok (.invokestatic 163, 3) := by decide +kernel
theorem dX1_readDays_15 : decode cX1_readDays 15 = .ok (.invokevirtual 94, 3) := by decide +kernel
theorem dX1_readDays_18 : decode cX1_readDays 18 = .ok (.istore_n 1, 1) := by decide +kernel
theorem dX1_readDays_19 : decode cX1_readDays 19 = .ok (.aload_n 0, 1) := by decide +kernel
theorem dX1_readDays_20 : decode cX1_readDays 20 = .ok (.getfield 29, 3) := by decide +kernel
theorem dX1_readDays_23 : decode cX1_readDays 23 = .ok (.ifCond .ne 12, 3) := by decide +kernel
theorem dX1_readDays_26 : decode cX1_readDays 26 = .ok (.aload_n 0, 1) := by decide +kernel
theorem dX1_readDays_27 : decode cX1_readDays 27 = .ok (.getfield 12, 3) := by decide +kernel
theorem dX1_readDays_30 : decode cX1_readDays 30 = .ok (.iload_n 1, 1) := by decide +kernel
theorem dX1_readDays_31 : decode cX1_readDays 31 = .ok (.invokevirtual 168, 3) := by decide +kernel
theorem dX1_readDays_34 : decode cX1_readDays 34 = .ok (.pop, 1) := by decide +kernel
theorem dX1_readDays_35 : decode cX1_readDays 35 = .ok (.return_, 1) := by decide +kernel
theorem dX1_readKnownChild_0 : decode cX1_readKnownChild 0 = .ok (.aload_n 0, 1) := by decide +kernel
theorem dX1_readKnownChild_1 : decode cX1_readKnownChild 1 = .ok (.getfield 12, 3) := by decide +kernel
theorem dX1_readKnownChild_4 : decode cX1_readKnownChild 4 = .ok (.aload_n 0, 1) := by decide +kernel
theorem dX1_readKnownChild_5 : decode cX1_readKnownChild 5 = .ok (.invokevirtual 111, 3) := by decide +kernel
theorem dX1_readKnownChild_8 : decode cX1_readKnownChild 8 = .ok (.invokevirtual 115, 3) := by decide +kernel
theorem dX1_readKnownChild_11 : decode cX1_readKnownChild 11 = .ok (.istore_n 1, 1) := by decide +kernel
theorem dX1_readKnownChild_12 : decode cX1_readKnownChild 12 = .ok (.iload_n 1, 1) := by decide +kernel
theorem dX1_readKnownChild_13 : decode cX1_readKnownChild 13 = .ok (.iconst (-1), 1) := by decide +kernel
theorem dX1_readKnownChild_14 : decode cX1_readKnownChild 14 = .ok (.if_icmp .ne 8, 3) := by decide +kernel
theorem dX1_readKnownChild_17 : decode cX1_readKnownChild 17 = .ok (.aload_n 0, 1) := by decide +kernel
theorem dX1_readKnownChild_18 : decode cX1_readKnownChild 18 = .ok (.iconst 3, 1) := by decide +kernel
theorem dX1_readKnownChild_19 : decode cX1_readKnownChild 19 = .ok (.invokevirtual 88, 3) := by decide +kernel
theorem dX1_readKnownChild_22 : decode cX1_readKnownChild 22 = .ok (.iload_n 1, 1) := by decide +kernel
theorem dX1_readKnownChild_23 : decode cX1_readKnownChild 23 = .ok (.ireturn, 1) := by decide +kernel
theorem dX1_readName_0 : decode cX1_readName 0 = .ok (.aload_n 0, 1) := by decide +kernel
theorem dX1_readName_1 : decode cX1_readName 1 = .ok (.invokevirtual 51, 3) := by decide +kernel
theorem dX1_readName_4 : decode cX1_readName 4 = .ok (.aload_n 0, 1) := by decide +kernel
theorem dX1_readName_5 : decode cX1_readName 5 = .ok (.getfield 35, 3) := by decide +kernel
theorem dX1_readName_8 : decode cX1_readName 8 = .ok (.iconst 1, 1) := by decide +kernel
theorem dX1_readName_9 : decode cX1_readName 9 = .ok (.if_icmp .ne 17, 3) := by decide +kernel
theorem dX1_readName_12 : decode cX1_readName 12 = .ok (.aload_n 0, 1) := by decide +kernel
theorem dX1_readName_13 : decode cX1_readName 13 = .ok (.getfield 41, 3) := by decide +kernel
theorem dX1_readName_16 : decode cX1_readName 16 = .ok (.aload_n 0, 1) := by decide +kernel
theorem dX1_readName_17 : decode cX1_readName 17 = .ok (.getfield 38, 3) := by decide +kernel
theorem dX1_readName_20 : decode cX1_readName 20 = .ok (.isub, 1) := by decide +kernel
theorem dX1_readName_21 : decode cX1_readName 21 = .ok (.bipush 6, 2) := by decide +kernel
theorem dX1_readName_23 : decode cX1_readName 23 = .ok (.if_icmp .le 8, 3) := by decide +kernel
theorem dX1_readName_26 : decode cX1_readName 26 = .ok (.aload_n 0, 1) := by decide +kernel
theorem dX1_readName_27 : decode cX1_readName 27 = .ok (.iconst 1, 1) := by decide +kernel
theorem dX1_readName_28 : decode cX1_readName 28 = .ok (.invokevirtual 88, 3) := by decide +kernel
theorem dX1_readName_31 : decode cX1_readName 31 = .ok (.iconst 0, 1) := by decide +kernel
theorem dX1_readName_32 : decode cX1_readName 32 = .ok (.istore_n 1, 1) := by decide +kernel
theorem dX1_readName_33 : decode cX1_readName 33 = .ok (.aload_n 0, 1) := by decide +kernel
theorem dX1_readName_34 : decode cX1_readName 34 = .ok (.getfield 38, 3) := by decide +kernel
theorem dX1_readName_37 : decode cX1_readName 37 = .ok (.istore_n 2, 1) := by decide +kernel
theorem dX1_readName_38 : decode cX1_readName 38 = .ok (.iload_n 2, 1) := by decide +kernel
theorem dX1_readName_39 : decode cX1_readName 39 = .ok (.aload_n 0, 1) := by decide +kernel
theorem dX1_readName_40 : decode cX1_readName 40 = .ok (.getfield 41, 3) := by decide +kernel
theorem dX1_readName_43 : decode cX1_readName 43 = .ok (.if_icmp .ge 25, 3) := by decide +kernel
theorem dX1_readName_46 : decode cX1_readName 46 = .ok (.iload_n 1, 1) := by decide +kernel
theorem dX1_readName_47 : decode cX1_readName 47 = .ok (.bipush 27, 2) := by decide +kernel
theorem dX1_readName_49 : decode cX1_readName 49 = .ok (.imul, 1) := by decide +kernel
theorem dX1_readName_50 : decode cX1_readName 50 = .ok (.aload_n 0, 1) := by decide +kernel
theorem dX1_readName_51 : decode cX1_readName 51 = .ok (.iload_n 2, 1) := by decide +kernel
theorem dX1_readName_52 : decode cX1_readName 52 = .ok (.invokevirtual 171, 3) := by decide +kernel
theorem dX1_readName_55 : decode cX1_readName 55 = .ok (.iadd, 1) := by decide +kernel
theorem dX1_readName_56 : decode cX1_readName 56 = .ok (.bipush 97, 2) := by decide +kernel
theorem dX1_readName_58 : decode cX1_readName 58 = .ok (.isub, 1) := by decide +kernel
theorem dX1_readName_59 : decode cX1_readName 59 = .ok (.iconst 1, 1) := by decide +kernel
theorem dX1_readName_60 : decode cX1_readName 60 = .ok (.iadd, 1) := by decide +kernel
theorem dX1_readName_61 : decode cX1_readName 61 = .ok (.istore_n 1, 1) := by decide +kernel
theorem dX1_readName_62 : decode cX1_readName 62 = .ok (.iinc 2 1, 3) := by decide +kernel
theorem dX1_readName_65 : decode cX1_readName 65 = .ok (.goto (-27), 3) := by decide +kernel
theorem dX1_readName_68 : decode cX1_readName 68 = .ok (.iload_n 1, 1) := by decide +kernel
theorem dX1_readName_69 : decode cX1_readName 69 = .ok (.ireturn, 1) := by decide +kernel
theorem dX1_readNumber_0 : decode cX1_readNumber 0 = .ok (.aload_n 0, 1) := by decide +kernel
theorem dX1_readNumber_1 : decode cX1_readNumber 1 = .ok (.invokevirtual 51, 3) := by decide +kernel
theorem dX1_readNumber_4 : decode cX1_readNumber 4 = .ok (.aload_n 0, 1) := by decide +kernel
theorem dX1_readNumber_5 : decode cX1_readNumber 5 = .ok (.getfield 35, 3) := by decide +kernel
theorem dX1_readNumber_8 : decode cX1_readNumber 8 = .ok (.iconst 2, 1) := by decide +kernel
theorem dX1_readNumber_9 : decode cX1_readNumber 9 = .ok (.if_icmp .ne 16, 3) := by decide +kernel
theorem dX1_readNumber_12 : decode cX1_readNumber 12 = .ok (.aload_n 0, 1) := by decide +kernel
theorem dX1_readNumber_13 : decode cX1_readNumber 13 = .ok (.getfield 41, 3) := by decide +kernel
theorem dX1_readNumber_16 : decode cX1_readNumber 16 = .ok (.aload_n 0, 1) := by decide +kernel
theorem dX1_readNumber_17 : decode cX1_readNumber 17 = .ok (.getfield 38, 3) := by decide +kernel
theorem dX1_readNumber_20 : decode cX1_readNumber 20 = .ok (.isub, 1) := by decide +kernel
theorem dX1_readNumber_21 : decode cX1_readNumber 21 = .ok (.iconst 4, 1) := by decide +kernel
theorem dX1_readNumber_22 : decode cX1_readNumber 22 = .ok (.if_icmp .le 10, 3) := by decide +kernel
theorem dX1_readNumber_25 : decode cX1_readNumber 25 = .ok (.aload_n 0, 1) := by decide +kernel
theorem dX1_readNumber_26 : decode cX1_readNumber 26 = .ok (.iconst 1, 1) := by decide +kernel
theorem dX1_readNumber_27 : decode cX1_readNumber 27 = .ok (.invokevirtual 88, 3) := by decide +kernel
theorem dX1_readNumber_30 : decode cX1_readNumber 30 = .ok (.iconst 0, 1) := by decide +kernel
theorem dX1_readNumber_31 : decode cX1_readNumber 31 = .ok (.ireturn, 1) := by decide +kernel
theorem dX1_readNumber_32 : decode cX1_readNumber 32 = .ok (.iconst 0, 1) := by decide +kernel
theorem dX1_readNumber_33 : decode cX1_readNumber 33 = .ok (.istore_n 3, 1) := by decide +kernel
theorem dX1_readNumber_34 : decode cX1_readNumber 34 = .ok (.aload_n 0, 1) := by decide +kernel
theorem dX1_readNumber_35 : decode cX1_readNumber 35 = .ok (.getfield 38, 3) := by decide +kernel
theorem dX1_readNumber_38 : decode cX1_readNumber 38 = .ok (.istore 4, 2) := by decide +kernel
theorem dX1_readNumber_40 : decode cX1_readNumber 40 = .ok (.iload 4, 2) := by decide +kernel
theorem dX1_readNumber_42 : decode cX1_readNumber 42 = .ok (.aload_n 0, 1) := by decide +kernel
theorem dX1_readNumber_43 : decode cX1_readNumber 43 = .ok (.getfield 41, 3) := by decide +kernel
theorem dX1_readNumber_46 : decode cX1_readNumber 46 = .ok (.if_icmp .ge 24, 3) := by decide +kernel
theorem dX1_readNumber_49 : decode cX1_readNumber 49 = .ok (.iload_n 3, 1) := by decide +kernel
theorem dX1_readNumber_50 : decode cX1_readNumber 50 = .ok (.bipush 10, 2) := by decide +kernel
theorem dX1_readNumber_52 : decode cX1_readNumber 52 = .ok (.imul, 1) := by decide +kernel
theorem dX1_readNumber_53 : decode cX1_readNumber 53 = .ok (.aload_n 0, 1) := by decide +kernel
theorem dX1_readNumber_54 : decode cX1_readNumber 54 = .ok (.iload 4, 2) := by decide +kernel
theorem dX1_readNumber_56 : decode cX1_readNumber 56 = .ok (.invokevirtual 171, 3) := by decide +kernel
theorem dX1_readNumber_59 : decode cX1_readNumber 59 = .ok (.iadd, 1) := by decide +kernel
theorem dX1_readNumber_60 : decode cX1_readNumber 60 = .ok (.bipush 48, 2) := by decide +kernel
theorem dX1_readNumber_62 : decode cX1_readNumber 62 = .ok (.isub, 1) := by decide +kernel
theorem dX1_readNumber_63 : decode cX1_readNumber 63 = .ok (.istore_n 3, 1) := by decide +kernel
theorem dX1_readNumber_64 : decode cX1_readNumber 64 = .ok (.iinc 4 1, 3) := by decide +kernel
theorem dX1_readNumber_67 : decode cX1_readNumber 67 = .ok (.goto (-27), 3) := by decide +kernel
theorem dX1_readNumber_70 : decode cX1_readNumber 70 = .ok (.iload_n 3, 1) := by decide +kernel
theorem dX1_readNumber_71 : decode cX1_readNumber 71 = .ok (.iload_n 1, 1) := by decide +kernel
theorem dX1_readNumber_72 : decode cX1_readNumber 72 = .ok (.if_icmp .lt 8, 3) := by decide +kernel
theorem dX1_readNumber_75 : decode cX1_readNumber 75 = .ok (.iload_n 3, 1) := by decide +kernel
theorem dX1_readNumber_76 : decode cX1_readNumber 76 = .ok (.iload_n 2, 1) := by decide +kernel
theorem dX1_readNumber_77 : decode cX1_readNumber 77 = .ok (.if_icmp .le 10, 3) := by decide +kernel
theorem dX1_readNumber_80 : decode cX1_readNumber 80 = .ok (.aload_n 0, 1) := by decide +kernel
theorem dX1_readNumber_81 : decode cX1_readNumber 81 = .ok (.iconst 2, 1) := by decide +kernel
theorem dX1_readNumber_82 : decode cX1_readNumber 82 = .ok (.invokevirtual 88, 3) := by decide +kernel
theorem dX1_readNumber_85 : decode cX1_readNumber 85 = .ok (.iconst 0, 1) := by decide +kernel
theorem dX1_readNumber_86 : decode cX1_readNumber 86 = .ok (.ireturn, 1) := by decide +kernel
theorem dX1_readNumber_87 : decode cX1_readNumber 87 = .ok (.iload_n 3, 1) := by decide +kernel
theorem dX1_readNumber_88 : decode cX1_readNumber 88 = .ok (.ireturn, 1) := by decide +kernel
theorem dX1_fail_0 : decode cX1_fail 0 = .ok (.aload_n 0, 1) := by decide +kernel
theorem dX1_fail_1 : decode cX1_fail 1 = .ok (.getfield 29, 3) := by decide +kernel
theorem dX1_fail_4 : decode cX1_fail 4 = .ok (.ifCond .ne 16, 3) := by decide +kernel
theorem dX1_fail_7 : decode cX1_fail 7 = .ok (.aload_n 0, 1) := by decide +kernel
theorem dX1_fail_8 : decode cX1_fail 8 = .ok (.iload_n 1, 1) := by decide +kernel
theorem dX1_fail_9 : decode cX1_fail 9 = .ok (.putfield 29, 3) := by decide +kernel
theorem dX1_fail_12 : decode cX1_fail 12 = .ok (.aload_n 0, 1) := by decide +kernel
theorem dX1_fail_13 : decode cX1_fail 13 = .ok (.aload_n 0, 1) := by decide +kernel
theorem dX1_fail_14 : decode cX1_fail 14 = .ok (.getfield 38, 3) := by decide +kernel
theorem dX1_fail_17 : decode cX1_fail 17 = .ok (.putfield 32, 3) := by decide +kernel
theorem dX1_fail_20 : decode cX1_fail 20 = .ok (.return_, 1) := by decide +kernel
theorem dX1_readToken_0 : decode cX1_readToken 0 = .ok (.aload_n 0, 1) := by decide +kernel
theorem dX1_readToken_1 : decode cX1_readToken 1 = .ok (.getfield 29, 3) := by decide +kernel
theorem dX1_readToken_4 : decode cX1_readToken 4 = .ok (.ifCond .eq 4, 3) := by decide +kernel
theorem dX1_readToken_7 : decode cX1_readToken 7 = .ok (.return_, 1) := by decide +kernel
theorem dX1_readToken_8 : decode cX1_readToken 8 = .ok (.aload_n 0, 1) := by decide +kernel
theorem dX1_readToken_9 : decode cX1_readToken 9 = .ok (.getfield 41, 3) := by decide +kernel
theorem dX1_readToken_12 : decode cX1_readToken 12 = .ok (.istore_n 1, 1) := by decide +kernel
theorem dX1_readToken_13 : decode cX1_readToken 13 = .ok (.iload_n 1, 1) := by decide +kernel
theorem dX1_readToken_14 : decode cX1_readToken 14 = .ok (.aload_n 0, 1) := by decide +kernel
theorem dX1_readToken_15 : decode cX1_readToken 15 = .ok (.getfield 26, 3) := by decide +kernel
theorem dX1_readToken_18 : decode cX1_readToken 18 = .ok (.if_icmp .ge 17, 3) := by decide +kernel
theorem dX1_readToken_21 : decode cX1_readToken 21 = .ok (.aload_n 0, 1) := by decide +kernel
theorem dX1_readToken_22 : decode cX1_readToken 22 = .ok (.iload_n 1, 1) := by decide +kernel
theorem dX1_readToken_23 : decode cX1_readToken 23 = .ok (.invokevirtual 174, 3) := by decide +kernel
theorem dX1_readToken_26 : decode cX1_readToken 26 = .ok (.ifCond .ne 9, 3) := by decide +kernel
theorem dX1_readToken_29 : decode cX1_readToken 29 = .ok (.iinc 1 1, 3) := by decide +kernel
theorem dX1_readToken_32 : decode cX1_readToken 32 = .ok (.goto (-19), 3) := by decide +kernel
theorem dX1_readToken_35 : decode cX1_readToken 35 = .ok (.aload_n 0, 1) := by decide +kernel
theorem dX1_readToken_36 : decode cX1_readToken 36 = .ok (.iload_n 1, 1) := by decide +kernel
theorem dX1_readToken_37 : decode cX1_readToken 37 = .ok (.invokevirtual 174, 3) := by decide +kernel
theorem dX1_readToken_40 : decode cX1_readToken 40 = .ok (.istore_n 2, 1) := by decide +kernel
theorem dX1_readToken_41 : decode cX1_readToken 41 = .ok (.iload_n 1, 1) := by decide +kernel
theorem dX1_readToken_42 : decode cX1_readToken 42 = .ok (.istore_n 3, 1) := by decide +kernel
theorem dX1_readToken_43 : decode cX1_readToken 43 = .ok (.iload_n 2, 1) := by decide +kernel
theorem dX1_readToken_44 : decode cX1_readToken 44 = .ok (.invokestatic 177, 3) := by decide +kernel
theorem dX1_readToken_47 : decode cX1_readToken 47 = .ok (.ifCond .eq 26, 3) := by decide +kernel
theorem dX1_readToken_50 : decode cX1_readToken 50 = .ok (.iload_n 3, 1) := by decide +kernel
theorem dX1_readToken_51 : decode cX1_readToken 51 = .ok (.aload_n 0, 1) := by decide +kernel
theorem dX1_readToken_52 : decode cX1_readToken 52 = .ok (.getfield 26, 3) := by decide +kernel
theorem dX1_readToken_55 : decode cX1_readToken 55 = .ok (.if_icmp .ge 27, 3) := by decide +kernel
theorem dX1_readToken_58 : decode cX1_readToken 58 = .ok (.aload_n 0, 1) := by decide +kernel
theorem dX1_readToken_59 : decode cX1_readToken 59 = .ok (.iload_n 3, 1) := by decide +kernel
theorem dX1_readToken_60 : decode cX1_readToken 60 = .ok (.invokevirtual 174, 3) := by decide +kernel
theorem dX1_readToken_63 : decode cX1_readToken 63 = .ok (.iload_n 2, 1) := by decide +kernel
theorem dX1_readToken_64 : decode cX1_readToken 64 = .ok (.if_icmp .ne 18, 3) := by decide +kernel
theorem dX1_readToken_67 : decode cX1_readToken 67 = .ok (.iinc 3 1, 3) := by decide +kernel
theorem dX1_readToken_70 : decode cX1_readToken 70 = .ok (.goto (-20), 3) := by decide +kernel
theorem dX1_readToken_73 : decode cX1_readToken 73 = .ok (.iload_n 2, 1) := by decide +kernel
theorem dX1_readToken_74 : decode cX1_readToken 74 = .ok (.iconst 3, 1) := by decide +kernel
theorem dX1_readToken_75 : decode cX1_readToken 75 = .ok (.if_icmp .ne 7, 3) := by decide +kernel
theorem dX1_readToken_78 : decode cX1_readToken 78 = .ok (.iload_n 1, 1) := by decide +kernel
theorem dX1_readToken_79 : decode cX1_readToken 79 = .ok (.iconst 1, 1) := by decide +kernel
theorem dX1_readToken_80 : decode cX1_readToken 80 = .ok (.iadd, 1) := by decide +kernel
theorem dX1_readToken_81 : decode cX1_readToken 81 = .ok (.istore_n 3, 1) := by decide +kernel
theorem dX1_readToken_82 : decode cX1_readToken 82 = .ok (.iload_n 1, 1) := by decide +kernel
theorem dX1_readToken_83 : decode cX1_readToken 83 = .ok (.aload_n 0, 1) := by decide +kernel
theorem dX1_readToken_84 : decode cX1_readToken 84 = .ok (.getfield 41, 3) := by decide +kernel
theorem dX1_readToken_87 : decode cX1_readToken 87 = .ok (.if_icmp .ne 24, 3) := by decide +kernel
theorem dX1_readToken_90 : decode cX1_readToken 90 = .ok (.aload_n 0, 1) := by decide +kernel
theorem dX1_readToken_91 : decode cX1_readToken 91 = .ok (.getfield 35, 3) := by decide +kernel
theorem dX1_readToken_94 : decode cX1_readToken 94 = .ok (.invokestatic 177, 3) := by decide +kernel
theorem dX1_readToken_97 : decode cX1_readToken 97 = .ok (.ifCond .eq 14, 3) := by decide +kernel
theorem dX1_readToken_100 : decode cX1_readToken 100 = .ok (.iload_n 2, 1) := by decide +kernel
theorem dX1_readToken_101 : decode cX1_readToken 101 = .ok (.invokestatic 177, 3) := by decide +kernel
theorem dX1_readToken_104 : decode cX1_readToken 104 = .ok (.ifCond .eq 7, 3) := by decide +kernel
theorem dX1_readToken_107 : decode cX1_readToken 107 = .ok (.iconst 1, 1) := by decide +kernel
theorem dX1_readToken_108 : decode cX1_readToken 108 = .ok (.goto 4, 3) := by decide +kernel
theorem dX1_readToken_111 : decode cX1_readToken 111 = .ok (.iconst 0, 1) := by decide +kernel
theorem dX1_readToken_112 : decode cX1_readToken 112 = .ok (.istore 4, 2) := by decide +kernel
theorem dX1_readToken_114 : decode cX1_readToken 114 = .ok (.aload_n 0, 1) := by decide +kernel
theorem dX1_readToken_115 : decode cX1_readToken 115 = .ok (.iload 4, 2) := by decide +kernel
theorem dX1_readToken_117 : decode cX1_readToken 117 = .ok (.ifCond .eq 7, 3) := by decide +kernel
theorem dX1_readToken_120 : decode cX1_readToken 120 = .ok (.iconst 5, 1) := by decide +kernel
theorem dX1_readToken_121 : decode cX1_readToken 121 = .ok (.goto 4, 3) := by decide +kernel
theorem dX1_readToken_124 : decode cX1_readToken 124 = .ok (.iload_n 2, 1) := by decide +kernel
theorem dX1_readToken_125 : decode cX1_readToken 125 = .ok (.putfield 35, 3) := by decide +kernel
theorem dX1_readToken_128 : decode cX1_readToken 128 = .ok (.aload_n 0, 1) := by decide +kernel
theorem dX1_readToken_129 : decode cX1_readToken 129 = .ok (.iload_n 1, 1) := by decide +kernel
theorem dX1_readToken_130 : decode cX1_readToken 130 = .ok (.putfield 38, 3) := by decide +kernel
theorem dX1_readToken_133 : decode cX1_readToken 133 = .ok (.aload_n 0, 1) := by decide +kernel
theorem dX1_readToken_134 : decode cX1_readToken 134 = .ok (.iload_n 3, 1) := by decide +kernel
theorem dX1_readToken_135 : decode cX1_readToken 135 = .ok (.putfield 41, 3) := by decide +kernel
theorem dX1_readToken_138 : decode cX1_readToken 138 = .ok (.return_, 1) := by decide +kernel
theorem dX1_isRun_0 : decode cX1_isRun 0 = .ok (.iload_n 0, 1) := by decide +kernel
theorem dX1_isRun_1 : decode cX1_isRun 1 = .ok (.iconst 1, 1) := by decide +kernel
theorem dX1_isRun_2 : decode cX1_isRun 2 = .ok (.if_icmp .eq 8, 3) := by decide +kernel
theorem dX1_isRun_5 : decode cX1_isRun 5 = .ok (.iload_n 0, 1) := by decide +kernel
theorem dX1_isRun_6 : decode cX1_isRun 6 = .ok (.iconst 2, 1) := by decide +kernel
theorem dX1_isRun_7 : decode cX1_isRun 7 = .ok (.if_icmp .ne 7, 3) := by decide +kernel
theorem dX1_isRun_10 : decode cX1_isRun 10 = .ok (.iconst 1, 1) := by decide +kernel
theorem dX1_isRun_11 : decode cX1_isRun 11 = .ok (.goto 4, 3) := by decide +kernel
theorem dX1_isRun_14 : decode cX1_isRun 14 = .ok (.iconst 0, 1) := by decide +kernel
theorem dX1_isRun_15 : decode cX1_isRun 15 = .ok (.ireturn, 1) := by decide +kernel
theorem dX1_classAt_0 : decode cX1_classAt 0 = .ok (.iload_n 1, 1) := by decide +kernel
theorem dX1_classAt_1 : decode cX1_classAt 1 = .ok (.ifCond .lt 20, 3) := by decide +kernel
theorem dX1_classAt_4 : decode cX1_classAt 4 = .ok (.iload_n 1, 1) := by decide +kernel
theorem dX1_classAt_5 : decode cX1_classAt 5 = .ok (.aload_n 0, 1) := by decide +kernel
theorem dX1_classAt_6 : decode cX1_classAt 6 = .ok (.getfield 26, 3) := by decide +kernel
theorem dX1_classAt_9 : decode cX1_classAt 9 = .ok (.if_icmp .ge 12, 3) := by decide +kernel
theorem dX1_classAt_12 : decode cX1_classAt 12 = .ok (.iload_n 1, 1) := by decide +kernel
theorem dX1_classAt_13 : decode cX1_classAt 13 = .ok (.aload_n 0, 1) := by decide +kernel
theorem dX1_classAt_14 : decode cX1_classAt 14 = .ok (.getfield 18, 3) := by decide +kernel
theorem dX1_classAt_17 : decode cX1_classAt 17 = .ok (.arraylength, 1) := by decide +kernel
theorem dX1_classAt_18 : decode cX1_classAt 18 = .ok (.if_icmp .lt 5, 3) := by decide +kernel
theorem dX1_classAt_21 : decode cX1_classAt 21 = .ok (.iconst 4, 1) := by decide +kernel
theorem dX1_classAt_22 : decode cX1_classAt 22 = .ok (.ireturn, 1) := by decide +kernel
theorem dX1_classAt_23 : decode cX1_classAt 23 = .ok (.aload_n 0, 1) := by decide +kernel
theorem dX1_classAt_24 : decode cX1_classAt 24 = .ok (.getfield 18, 3) := by decide +kernel
theorem dX1_classAt_27 : decode cX1_classAt 27 = .ok (.iload_n 1, 1) := by decide +kernel
theorem dX1_classAt_28 : decode cX1_classAt 28 = .ok (.baload, 1) := by decide +kernel
theorem dX1_classAt_29 : decode cX1_classAt 29 = .ok (.istore_n 2, 1) := by decide +kernel
theorem dX1_classAt_30 : decode cX1_classAt 30 = .ok (.iload_n 2, 1) := by decide +kernel
theorem dX1_classAt_31 : decode cX1_classAt 31 = .ok (.bipush 97, 2) := by decide +kernel
theorem dX1_classAt_33 : decode cX1_classAt 33 = .ok (.if_icmp .lt 11, 3) := by decide +kernel
theorem dX1_classAt_36 : decode cX1_classAt 36 = .ok (.iload_n 2, 1) := by decide +kernel
theorem dX1_classAt_37 : decode cX1_classAt 37 = .ok (.bipush 122, 2) := by decide +kernel
theorem dX1_classAt_39 : decode cX1_classAt 39 = .ok (.if_icmp .gt 5, 3) := by decide +kernel
theorem dX1_classAt_42 : decode cX1_classAt 42 = .ok (.iconst 1, 1) := by decide +kernel
theorem dX1_classAt_43 : decode cX1_classAt 43 = .ok (.ireturn, 1) := by decide +kernel
theorem dX1_classAt_44 : decode cX1_classAt 44 = .ok (.iload_n 2, 1) := by decide +kernel
theorem dX1_classAt_45 : decode cX1_classAt 45 = .ok (.bipush 48, 2) := by decide +kernel
theorem dX1_classAt_47 : decode cX1_classAt 47 = .ok (.if_icmp .lt 11, 3) := by decide +kernel
theorem dX1_classAt_50 : decode cX1_classAt 50 = .ok (.iload_n 2, 1) := by decide +kernel
theorem dX1_classAt_51 : decode cX1_classAt 51 = .ok (.bipush 57, 2) := by decide +kernel
theorem dX1_classAt_53 : decode cX1_classAt 53 = .ok (.if_icmp .gt 5, 3) := by decide +kernel
theorem dX1_classAt_56 : decode cX1_classAt 56 = .ok (.iconst 2, 1) := by decide +kernel
theorem dX1_classAt_57 : decode cX1_classAt 57 = .ok (.ireturn, 1) := by decide +kernel
theorem dX1_classAt_58 : decode cX1_classAt 58 = .ok (.iload_n 2, 1) := by decide +kernel
theorem dX1_classAt_59 : decode cX1_classAt 59 = .ok (.bipush 59, 2) := by decide +kernel
theorem dX1_classAt_61 : decode cX1_classAt 61 = .ok (.if_icmp .ne 5, 3) := by decide +kernel
theorem dX1_classAt_64 : decode cX1_classAt 64 = .ok (.iconst 3, 1) := by decide +kernel
theorem dX1_classAt_65 : decode cX1_classAt 65 = .ok (.ireturn, 1) := by decide +kernel
theorem dX1_classAt_66 : decode cX1_classAt 66 = .ok (.iload_n 2, 1) := by decide +kernel
theorem dX1_classAt_67 : decode cX1_classAt 67 = .ok (.bipush 32, 2) := by decide +kernel
theorem dX1_classAt_69 : decode cX1_classAt 69 = .ok (.if_icmp .eq 9, 3) := by decide +kernel
theorem dX1_classAt_72 : decode cX1_classAt 72 = .ok (.iload_n 2, 1) := by decide +kernel
theorem dX1_classAt_73 : decode cX1_classAt 73 = .ok (.bipush 10, 2) := by decide +kernel
theorem dX1_classAt_75 : decode cX1_classAt 75 = .ok (.if_icmp .ne 7, 3) := by decide +kernel
theorem dX1_classAt_78 : decode cX1_classAt 78 = .ok (.iconst 0, 1) := by decide +kernel
theorem dX1_classAt_79 : decode cX1_classAt 79 = .ok (.goto 4, 3) := by decide +kernel
theorem dX1_classAt_82 : decode cX1_classAt 82 = .ok (.iconst 5, 1) := by decide +kernel
theorem dX1_classAt_83 : decode cX1_classAt 83 = .ok (.ireturn, 1) := by decide +kernel
theorem dX1_tokenIs_0 : decode cX1_tokenIs 0 = .ok (.aload_n 0, 1) := by decide +kernel
theorem dX1_tokenIs_1 : decode cX1_tokenIs 1 = .ok (.getfield 35, 3) := by decide +kernel
theorem dX1_tokenIs_4 : decode cX1_tokenIs 4 = .ok (.iconst 1, 1) := by decide +kernel
theorem dX1_tokenIs_5 : decode cX1_tokenIs 5 = .ok (.if_icmp .ne 19, 3) := by decide +kernel
theorem dX1_tokenIs_8 : decode cX1_tokenIs 8 = .ok (.aload_n 0, 1) := by decide +kernel
theorem dX1_tokenIs_9 : decode cX1_tokenIs 9 = .ok (.getfield 41, 3) := by decide +kernel
theorem dX1_tokenIs_12 : decode cX1_tokenIs 12 = .ok (.aload_n 0, 1) := by decide +kernel
theorem dX1_tokenIs_13 : decode cX1_tokenIs 13 = .ok (.getfield 38, 3) := by decide +kernel
theorem dX1_tokenIs_16 : decode cX1_tokenIs 16 = .ok (.isub, 1) := by decide +kernel
theorem dX1_tokenIs_17 : decode cX1_tokenIs 17 = .ok (.aload_n 1, 1) := by decide +kernel
theorem dX1_tokenIs_18 : decode cX1_tokenIs 18 = .ok (.invokevirtual 181, 3) := by decide +kernel
theorem dX1_tokenIs_21 : decode cX1_tokenIs 21 = .ok (.if_icmp .eq 5, 3) := by decide +kernel
theorem dX1_tokenIs_24 : decode cX1_tokenIs 24 = .ok (.iconst 0, 1) := by decide +kernel
theorem dX1_tokenIs_25 : decode cX1_tokenIs 25 = .ok (.ireturn, 1) := by decide +kernel
theorem dX1_tokenIs_26 : decode cX1_tokenIs 26 = .ok (.iconst 0, 1) := by decide +kernel
theorem dX1_tokenIs_27 : decode cX1_tokenIs 27 = .ok (.istore_n 2, 1) := by decide +kernel
theorem dX1_tokenIs_28 : decode cX1_tokenIs 28 = .ok (.iload_n 2, 1) := by decide +kernel
theorem dX1_tokenIs_29 : decode cX1_tokenIs 29 = .ok (.aload_n 1, 1) := by decide +kernel
theorem dX1_tokenIs_30 : decode cX1_tokenIs 30 = .ok (.invokevirtual 181, 3) := by decide +kernel
theorem dX1_tokenIs_33 : decode cX1_tokenIs 33 = .ok (.if_icmp .ge 29, 3) := by decide +kernel
theorem dX1_tokenIs_36 : decode cX1_tokenIs 36 = .ok (.aload_n 0, 1) := by decide +kernel
theorem dX1_tokenIs_37 : decode cX1_tokenIs 37 = .ok (.aload_n 0, 1) := by decide +kernel
theorem dX1_tokenIs_38 : decode cX1_tokenIs 38 = .ok (.getfield 38, 3) := by decide +kernel
theorem dX1_tokenIs_41 : decode cX1_tokenIs 41 = .ok (.iload_n 2, 1) := by decide +kernel
theorem dX1_tokenIs_42 : decode cX1_tokenIs 42 = .ok (.iadd, 1) := by decide +kernel
theorem dX1_tokenIs_43 : decode cX1_tokenIs 43 = .ok (.invokevirtual 171, 3) := by decide +kernel
theorem dX1_tokenIs_46 : decode cX1_tokenIs 46 = .ok (.aload_n 1, 1) := by decide +kernel
theorem dX1_tokenIs_47 : decode cX1_tokenIs 47 = .ok (.iload_n 2, 1) := by decide +kernel
theorem dX1_tokenIs_48 : decode cX1_tokenIs 48 = .ok (.invokevirtual 185, 3) := by decide +kernel
theorem dX1_tokenIs_51 : decode cX1_tokenIs 51 = .ok (.if_icmp .eq 5, 3) := by decide +kernel
theorem dX1_tokenIs_54 : decode cX1_tokenIs 54 = .ok (.iconst 0, 1) := by decide +kernel
theorem dX1_tokenIs_55 : decode cX1_tokenIs 55 = .ok (.ireturn, 1) := by decide +kernel
theorem dX1_tokenIs_56 : decode cX1_tokenIs 56 = .ok (.iinc 2 1, 3) := by decide +kernel
theorem dX1_tokenIs_59 : decode cX1_tokenIs 59 = .ok (.goto (-31), 3) := by decide +kernel
theorem dX1_tokenIs_62 : decode cX1_tokenIs 62 = .ok (.iconst 1, 1) := by decide +kernel
theorem dX1_tokenIs_63 : decode cX1_tokenIs 63 = .ok (.ireturn, 1) := by decide +kernel
theorem dX1_byteAt_0 : decode cX1_byteAt 0 = .ok (.iload_n 1, 1) := by decide +kernel
theorem dX1_byteAt_1 : decode cX1_byteAt 1 = .ok (.ifCond .lt 21, 3) := by decide +kernel
theorem dX1_byteAt_4 : decode cX1_byteAt 4 = .ok (.iload_n 1, 1) := by decide +kernel
theorem dX1_byteAt_5 : decode cX1_byteAt 5 = .ok (.aload_n 0, 1) := by decide +kernel
theorem dX1_byteAt_6 : decode cX1_byteAt 6 = .ok (.getfield 18, 3) := by decide +kernel
theorem dX1_byteAt_9 : decode cX1_byteAt 9 = .ok (.arraylength, 1) := by decide +kernel
theorem dX1_byteAt_10 : decode cX1_byteAt 10 = .ok (.if_icmp .ge 12, 3) := by decide +kernel
theorem dX1_byteAt_13 : decode cX1_byteAt 13 = .ok (.aload_n 0, 1) := by decide +kernel
theorem dX1_byteAt_14 : decode cX1_byteAt 14 = .ok (.getfield 18, 3) := by decide +kernel
theorem dX1_byteAt_17 : decode cX1_byteAt 17 = .ok (.iload_n 1, 1) := by decide +kernel
theorem dX1_byteAt_18 : decode cX1_byteAt 18 = .ok (.baload, 1) := by decide +kernel
theorem dX1_byteAt_19 : decode cX1_byteAt 19 = .ok (.goto 4, 3) := by decide +kernel
theorem dX1_byteAt_22 : decode cX1_byteAt 22 = .ok (.iconst 0, 1) := by decide +kernel
theorem dX1_byteAt_23 : decode cX1_byteAt 23 = .ok (.ireturn, 1) := by decide +kernel
theorem dX2_init_0 : decode cX2_init 0 = .ok (.aload_n 0, 1) := by decide +kernel
theorem dX2_init_1 : decode cX2_init 1 = .ok (.invokespecial 3, 3) := by decide +kernel
theorem dX2_init_4 : decode cX2_init 4 = .ok (.aload_n 0, 1) := by decide +kernel
theorem dX2_init_5 : decode cX2_init 5 = .ok (.bipush 6, 2) := by decide +kernel
theorem dX2_init_7 : decode cX2_init 7 = .ok (.newarray .int, 2) := by decide +kernel
theorem dX2_init_9 : decode cX2_init 9 = .ok (.putfield 9, 3) := by decide +kernel
theorem dX2_init_12 : decode cX2_init 12 = .ok (.aload_n 0, 1) := by decide +kernel
theorem dX2_init_13 : decode cX2_init 13 = .ok (.iconst 4, 1) := by decide +kernel
theorem dX2_init_14 : decode cX2_init 14 = .ok (.newarray .int, 2) := by decide +kernel
theorem dX2_init_16 : decode cX2_init 16 = .ok (.putfield 15, 3) := by decide +kernel
theorem dX2_init_19 : decode cX2_init 19 = .ok (.aload_n 0, 1) := by decide +kernel
theorem dX2_init_20 : decode cX2_init 20 = .ok (.bipush 10, 2) := by decide +kernel
theorem dX2_init_22 : decode cX2_init 22 = .ok (.newarray .int, 2) := by decide +kernel
theorem dX2_init_24 : decode cX2_init 24 = .ok (.putfield 18, 3) := by decide +kernel
theorem dX2_init_27 : decode cX2_init 27 = .ok (.aload_n 0, 1) := by decide +kernel
theorem dX2_init_28 : decode cX2_init 28 = .ok (.bipush 10, 2) := by decide +kernel
theorem dX2_init_30 : decode cX2_init 30 = .ok (.newarray .int, 2) := by decide +kernel
theorem dX2_init_32 : decode cX2_init 32 = .ok (.putfield 21, 3) := by decide +kernel
theorem dX2_init_35 : decode cX2_init 35 = .ok (.aload_n 0, 1) := by decide +kernel
theorem dX2_init_36 : decode cX2_init 36 = .ok (.bipush 10, 2) := by decide +kernel
theorem dX2_init_38 : decode cX2_init 38 = .ok (.newarray .int, 2) := by decide +kernel
theorem dX2_init_40 : decode cX2_init 40 = .ok (.putfield 24, 3) := by decide +kernel
theorem dX2_init_43 : decode cX2_init 43 = .ok (.aload_n 0, 1) := by decide +kernel
theorem dX2_init_44 : decode cX2_init 44 = .ok (.bipush 10, 2) := by decide +kernel
theorem dX2_init_46 : decode cX2_init 46 = .ok (.newarray .int, 2) := by decide +kernel
theorem dX2_init_48 : decode cX2_init 48 = .ok (.putfield 27, 3) := by decide +kernel
theorem dX2_init_51 : decode cX2_init 51 = .ok (.aload_n 0, 1) := by decide +kernel
theorem dX2_init_52 : decode cX2_init 52 = .ok (.bipush 10, 2) := by decide +kernel
theorem dX2_init_54 : decode cX2_init 54 = .ok (.newarray .int, 2) := by decide +kernel
theorem dX2_init_56 : decode cX2_init 56 = .ok (.putfield 30, 3) := by decide +kernel
theorem dX2_init_59 : decode cX2_init 59 = .ok (.aload_n 0, 1) := by decide +kernel
theorem dX2_init_60 : decode cX2_init 60 = .ok (.bipush 10, 2) := by decide +kernel
theorem dX2_init_62 : decode cX2_init 62 = .ok (.newarray .int, 2) := by decide +kernel
theorem dX2_init_64 : decode cX2_init 64 = .ok (.putfield 33, 3) := by decide +kernel
theorem dX2_init_67 : decode cX2_init 67 = .ok (.aload_n 0, 1) := by decide +kernel
theorem dX2_init_68 : decode cX2_init 68 = .ok (.bipush 10, 2) := by decide +kernel
theorem dX2_init_70 : decode cX2_init 70 = .ok (.newarray .int, 2) := by decide +kernel
theorem dX2_init_72 : decode cX2_init 72 = .ok (.putfield 36, 3) := by decide +kernel
theorem dX2_init_75 : decode cX2_init 75 = .ok (.aload_n 0, 1) := by decide +kernel
theorem dX2_init_76 : decode cX2_init 76 = .ok (.bipush 10, 2) := by decide +kernel
theorem dX2_init_78 : decode cX2_init 78 = .ok (.newarray .int, 2) := by decide +kernel
theorem dX2_init_80 : decode cX2_init 80 = .ok (.putfield 39, 3) := by decide +kernel
theorem dX2_init_83 : decode cX2_init 83 = .ok (.return_, 1) := by decide +kernel
theorem dX2_begin_0 : decode cX2_begin 0 = .ok (.aload_n 0, 1) := by decide +kernel
theorem dX2_begin_1 : decode cX2_begin 1 = .ok (.iconst 0, 1) := by decide +kernel
theorem dX2_begin_2 : decode cX2_begin 2 = .ok (.putfield 42, 3) := by decide +kernel
theorem dX2_begin_5 : decode cX2_begin 5 = .ok (.aload_n 0, 1) := by decide +kernel
theorem dX2_begin_6 : decode cX2_begin 6 = .ok (.iconst 0, 1) := by decide +kernel
theorem dX2_begin_7 : decode cX2_begin 7 = .ok (.putfield 46, 3) := by decide +kernel
theorem dX2_begin_10 : decode cX2_begin 10 = .ok (.aload_n 0, 1) := by decide +kernel
theorem dX2_begin_11 : decode cX2_begin 11 = .ok (.iload_n 1, 1) := by decide +kernel
theorem dX2_begin_12 : decode cX2_begin 12 = .ok (.putfield 49, 3) := by decide +kernel
theorem dX2_begin_15 : decode cX2_begin 15 = .ok (.aload_n 0, 1) := by decide +kernel
theorem dX2_begin_16 : decode cX2_begin 16 = .ok (.iload_n 2, 1) := by decide +kernel
theorem dX2_begin_17 : decode cX2_begin 17 = .ok (.putfield 52, 3) := by decide +kernel
theorem dX2_begin_20 : decode cX2_begin 20 = .ok (.aload_n 0, 1) := by decide +kernel
theorem dX2_begin_21 : decode cX2_begin 21 = .ok (.iload_n 2, 1) := by decide +kernel
theorem dX2_begin_22 : decode cX2_begin 22 = .ok (.putfield 55, 3) := by decide +kernel
theorem dX2_begin_25 : decode cX2_begin 25 = .ok (.aload_n 0, 1) := by decide +kernel
theorem dX2_begin_26 : decode cX2_begin 26 = .ok (.iconst 0, 1) := by decide +kernel
theorem dX2_begin_27 : decode cX2_begin 27 = .ok (.putfield 58, 3) := by decide +kernel
theorem dX2_begin_30 : decode cX2_begin 30 = .ok (.aload_n 0, 1) := by decide +kernel
theorem dX2_begin_31 : decode cX2_begin 31 = .ok (.iconst 0, 1) := by decide +kernel
theorem dX2_begin_32 : decode cX2_begin 32 = .ok (.putfield 61, 3) := by decide +kernel
theorem dX2_begin_35 : decode cX2_begin 35 = .ok (.aload_n 0, 1) := by decide +kernel
theorem dX2_begin_36 : decode cX2_begin 36 = .ok (.iconst 0, 1) := by decide +kernel
theorem dX2_begin_37 : decode cX2_begin 37 = .ok (.putfield 64, 3) := by decide +kernel
theorem dX2_begin_40 : decode cX2_begin 40 = .ok (.aload_n 0, 1) := by decide +kernel
theorem dX2_begin_41 : decode cX2_begin 41 = .ok (.iconst 0, 1) := by decide +kernel
theorem dX2_begin_42 : decode cX2_begin 42 = .ok (.putfield 67, 3) := by decide +kernel
theorem dX2_begin_45 : decode cX2_begin 45 = .ok (.aload_n 0, 1) := by decide +kernel
theorem dX2_begin_46 : decode cX2_begin 46 = .ok (.iconst 0, 1) := by decide +kernel
theorem dX2_begin_47 : decode cX2_begin 47 = .ok (.putfield 70, 3) := by decide +kernel
theorem dX2_begin_50 : decode cX2_begin 50 = .ok (.aload_n 0, 1) := by decide +kernel
theorem dX2_begin_51 : decode cX2_begin 51 = .ok (.getfield 9, 3) := by decide +kernel
theorem dX2_begin_54 : decode cX2_begin 54 = .ok (.iconst 0, 1) := by decide +kernel
theorem dX2_begin_55 : decode cX2_begin 55 = .ok (.invokestatic 73, 3) := by decide +kernel
theorem dX2_begin_58 : decode cX2_begin 58 = .ok (.return_, 1) := by decide +kernel
theorem dX2_copyFrom_0 : decode cX2_copyFrom 0 = .ok (.aload_n 0, 1) := by decide +kernel
theorem dX2_copyFrom_1 : decode cX2_copyFrom 1 = .ok (.aload_n 1, 1) := by decide +kernel
theorem dX2_copyFrom_2 : decode cX2_copyFrom 2 = .ok (.getfield 42, 3) := by decide +kernel
theorem dX2_copyFrom_5 : decode cX2_copyFrom 5 = .ok (.putfield 42, 3) := by decide +kernel
theorem dX2_copyFrom_8 : decode cX2_copyFrom 8 = .ok (.aload_n 0, 1) := by decide +kernel
theorem dX2_copyFrom_9 : decode cX2_copyFrom 9 = .ok (.aload_n 1, 1) := by decide +kernel
theorem dX2_copyFrom_10 : decode cX2_copyFrom 10 = .ok (.getfield 46, 3) := by decide +kernel
theorem dX2_copyFrom_13 : decode cX2_copyFrom 13 = .ok (.putfield 46, 3) := by decide +kernel
theorem dX2_copyFrom_16 : decode cX2_copyFrom 16 = .ok (.aload_n 0, 1) := by decide +kernel
theorem dX2_copyFrom_17 : decode cX2_copyFrom 17 = .ok (.aload_n 1, 1) := by decide +kernel
theorem dX2_copyFrom_18 : decode cX2_copyFrom 18 = .ok (.getfield 49, 3) := by decide +kernel
theorem dX2_copyFrom_21 : decode cX2_copyFrom 21 = .ok (.putfield 49, 3) := by decide +kernel
theorem dX2_copyFrom_24 : decode cX2_copyFrom 24 = .ok (.aload_n 0, 1) := by decide +kernel
theorem dX2_copyFrom_25 : decode cX2_copyFrom 25 = .ok (.aload_n 1, 1) := by decide +kernel
theorem dX2_copyFrom_26 : decode cX2_copyFrom 26 = .ok (.getfield 52, 3) := by decide +kernel
theorem dX2_copyFrom_29 : decode cX2_copyFrom 29 = .ok (.putfield 52, 3) := by decide +kernel
theorem dX2_copyFrom_32 : decode cX2_copyFrom 32 = .ok (.aload_n 0, 1) := by decide +kernel
theorem dX2_copyFrom_33 : decode cX2_copyFrom 33 = .ok (.aload_n 1, 1) := by decide +kernel
theorem dX2_copyFrom_34 : decode cX2_copyFrom 34 = .ok (.getfield 55, 3) := by decide +kernel
theorem dX2_copyFrom_37 : decode cX2_copyFrom 37 = .ok (.putfield 55, 3) := by decide +kernel
theorem dX2_copyFrom_40 : decode cX2_copyFrom 40 = .ok (.aload_n 0, 1) := by decide +kernel
theorem dX2_copyFrom_41 : decode cX2_copyFrom 41 = .ok (.aload_n 1, 1) := by decide +kernel
theorem dX2_copyFrom_42 : decode cX2_copyFrom 42 = .ok (.getfield 58, 3) := by decide +kernel
theorem dX2_copyFrom_45 : decode cX2_copyFrom 45 = .ok (.putfield 58, 3) := by decide +kernel
theorem dX2_copyFrom_48 : decode cX2_copyFrom 48 = .ok (.aload_n 0, 1) := by decide +kernel
theorem dX2_copyFrom_49 : decode cX2_copyFrom 49 = .ok (.aload_n 1, 1) := by decide +kernel
theorem dX2_copyFrom_50 : decode cX2_copyFrom 50 = .ok (.getfield 61, 3) := by decide +kernel
theorem dX2_copyFrom_53 : decode cX2_copyFrom 53 = .ok (.putfield 61, 3) := by decide +kernel
theorem dX2_copyFrom_56 : decode cX2_copyFrom 56 = .ok (.aload_n 0, 1) := by decide +kernel
theorem dX2_copyFrom_57 : decode cX2_copyFrom 57 = .ok (.aload_n 1, 1) := by decide +kernel
theorem dX2_copyFrom_58 : decode cX2_copyFrom 58 = .ok (.getfield 64, 3) := by decide +kernel
theorem dX2_copyFrom_61 : decode cX2_copyFrom 61 = .ok (.putfield 64, 3) := by decide +kernel
theorem dX2_copyFrom_64 : decode cX2_copyFrom 64 = .ok (.aload_n 0, 1) := by decide +kernel
theorem dX2_copyFrom_65 : decode cX2_copyFrom 65 = .ok (.aload_n 1, 1) := by decide +kernel
theorem dX2_copyFrom_66 : decode cX2_copyFrom 66 = .ok (.getfield 67, 3) := by decide +kernel
theorem dX2_copyFrom_69 : decode cX2_copyFrom 69 = .ok (.putfield 67, 3) := by decide +kernel
theorem dX2_copyFrom_72 : decode cX2_copyFrom 72 = .ok (.aload_n 0, 1) := by decide +kernel
theorem dX2_copyFrom_73 : decode cX2_copyFrom 73 = .ok (.aload_n 1, 1) := by decide +kernel
theorem dX2_copyFrom_74 : decode cX2_copyFrom 74 = .ok (.getfield 70, 3) := by decide +kernel
theorem dX2_copyFrom_77 : decode cX2_copyFrom 77 = .ok (.putfield 70, 3) := by decide +kernel
theorem dX2_copyFrom_80 : decode cX2_copyFrom 80 = .ok (.aload_n 1, 1) := by decide +kernel
theorem dX2_copyFrom_81 : decode cX2_copyFrom 81 = .ok (.getfield 9, 3) := by decide +kernel
theorem dX2_copyFrom_84 : decode cX2_copyFrom 84 = .ok (.aload_n 0, 1) := by decide +kernel
theorem dX2_copyFrom_85 : decode cX2_copyFrom 85 = .ok (.getfield 9, 3) := by decide +kernel
theorem dX2_copyFrom_88 : decode cX2_copyFrom 88 = .ok (.invokestatic 79, 3) := by decide +kernel
theorem dX2_copyFrom_91 : decode cX2_copyFrom 91 = .ok (.aload_n 1, 1) := by decide +kernel
theorem dX2_copyFrom_92 : decode cX2_copyFrom 92 = .ok (.getfield 15, 3) := by decide +kernel
theorem dX2_copyFrom_95 : decode cX2_copyFrom 95 = .ok (.aload_n 0, 1) := by decide +kernel
theorem dX2_copyFrom_96 : decode cX2_copyFrom 96 = .ok (.getfield 15, 3) := by decide +kernel
theorem dX2_copyFrom_99 : decode cX2_copyFrom 99 = .ok (.invokestatic 79, 3) := by decide +kernel
theorem dX2_copyFrom_102 : decode cX2_copyFrom 102 = .ok (.aload_n 1, 1) := by decide +kernel
theorem dX2_copyFrom_103 : decode cX2_copyFrom 103 = .ok (.getfield 18, 3) := by decide +kernel
theorem dX2_copyFrom_106 : decode cX2_copyFrom 106 = .ok (.aload_n 0, 1) := by decide +kernel
theorem dX2_copyFrom_107 : decode cX2_copyFrom 107 = .ok (.getfield 18, 3) := by decide +kernel
theorem dX2_copyFrom_110 : decode cX2_copyFrom 110 = .ok (.invokestatic 79, 3) := by decide +kernel
theorem dX2_copyFrom_113 : decode cX2_copyFrom 113 = .ok (.aload_n 1, 1) := by decide +kernel
theorem dX2_copyFrom_114 : decode cX2_copyFrom 114 = .ok (.getfield 21, 3) := by decide +kernel
theorem dX2_copyFrom_117 : decode cX2_copyFrom 117 = .ok (.aload_n 0, 1) := by decide +kernel
theorem dX2_copyFrom_118 : decode cX2_copyFrom 118 = .ok (.getfield 21, 3) := by decide +kernel
theorem dX2_copyFrom_121 : decode cX2_copyFrom 121 = .ok (.invokestatic 79, 3) := by decide +kernel
theorem dX2_copyFrom_124 : decode cX2_copyFrom 124 = .ok (.aload_n 1, 1) := by decide +kernel
theorem dX2_copyFrom_125 : decode cX2_copyFrom 125 = .ok (.getfield 24, 3) := by decide +kernel
theorem dX2_copyFrom_128 : decode cX2_copyFrom 128 = .ok (.aload_n 0, 1) := by decide +kernel
theorem dX2_copyFrom_129 : decode cX2_copyFrom 129 = .ok (.getfield 24, 3) := by decide +kernel
theorem dX2_copyFrom_132 : decode cX2_copyFrom 132 = .ok (.invokestatic 79, 3) := by decide +kernel
theorem dX2_copyFrom_135 : decode cX2_copyFrom 135 = .ok (.aload_n 1, 1) := by decide +kernel
theorem dX2_copyFrom_136 : decode cX2_copyFrom 136 = .ok (.getfield 27, 3) := by decide +kernel
theorem dX2_copyFrom_139 : decode cX2_copyFrom 139 = .ok (.aload_n 0, 1) := by decide +kernel
theorem dX2_copyFrom_140 : decode cX2_copyFrom 140 = .ok (.getfield 27, 3) := by decide +kernel
theorem dX2_copyFrom_143 : decode cX2_copyFrom 143 = .ok (.invokestatic 79, 3) := by decide +kernel
theorem dX2_copyFrom_146 : decode cX2_copyFrom 146 = .ok (.aload_n 1, 1) := by decide +kernel
theorem dX2_copyFrom_147 : decode cX2_copyFrom 147 = .ok (.getfield 30, 3) := by decide +kernel
theorem dX2_copyFrom_150 : decode cX2_copyFrom 150 = .ok (.aload_n 0, 1) := by decide +kernel
theorem dX2_copyFrom_151 : decode cX2_copyFrom 151 = .ok (.getfield 30, 3) := by decide +kernel
theorem dX2_copyFrom_154 : decode cX2_copyFrom 154 = .ok (.invokestatic 79, 3) := by decide +kernel
theorem dX2_copyFrom_157 : decode cX2_copyFrom 157 = .ok (.aload_n 1, 1) := by decide +kernel
theorem dX2_copyFrom_158 : decode cX2_copyFrom 158 = .ok (.getfield 33, 3) := by decide +kernel
theorem dX2_copyFrom_161 : decode cX2_copyFrom 161 = .ok (.aload_n 0, 1) := by decide +kernel
theorem dX2_copyFrom_162 : decode cX2_copyFrom 162 = .ok (.getfield 33, 3) := by decide +kernel
theorem dX2_copyFrom_165 : decode cX2_copyFrom 165 = .ok (.invokestatic 79, 3) := by decide +kernel
theorem dX2_copyFrom_168 : decode cX2_copyFrom 168 = .ok (.aload_n 1, 1) := by decide +kernel
theorem dX2_copyFrom_169 : decode cX2_copyFrom 169 = .ok (.getfield 36, 3) := by decide +kernel
theorem dX2_copyFrom_172 : decode cX2_copyFrom 172 = .ok (.aload_n 0, 1) := by decide +kernel
theorem dX2_copyFrom_173 : decode cX2_copyFrom 173 = .ok (.getfield 36, 3) := by decide +kernel
theorem dX2_copyFrom_176 : decode cX2_copyFrom 176 = .ok (.invokestatic 79, 3) := by decide +kernel
theorem dX2_copyFrom_179 : decode cX2_copyFrom 179 = .ok (.aload_n 1, 1) := by decide +kernel
theorem dX2_copyFrom_180 : decode cX2_copyFrom 180 = .ok (.getfield 39, 3) := by decide +kernel
theorem dX2_copyFrom_183 : decode cX2_copyFrom 183 = .ok (.aload_n 0, 1) := by decide +kernel
theorem dX2_copyFrom_184 : decode cX2_copyFrom 184 = .ok (.getfield 39, 3) := by decide +kernel
theorem dX2_copyFrom_187 : decode cX2_copyFrom 187 = .ok (.invokestatic 79, 3) := by decide +kernel
theorem dX2_copyFrom_190 : decode cX2_copyFrom 190 = .ok (.return_, 1) := by decide +kernel
theorem dX2_addGarden_0 : decode cX2_addGarden 0 = .ok (.aload_n 0, 1) := by decide +kernel
theorem dX2_addGarden_1 : decode cX2_addGarden 1 = .ok (.getfield 67, 3) := by decide +kernel
theorem dX2_addGarden_4 : decode cX2_addGarden 4 = .ok (.iconst 4, 1) := by decide +kernel
theorem dX2_addGarden_5 : decode cX2_addGarden 5 = .ok (.if_icmp .ge 25, 3) := by decide +kernel
theorem dX2_addGarden_8 : decode cX2_addGarden 8 = .ok (.aload_n 0, 1) := by decide +kernel
theorem dX2_addGarden_9 : decode cX2_addGarden 9 = .ok (.getfield 15, 3) := by decide +kernel
theorem dX2_addGarden_12 : decode cX2_addGarden 12 = .ok (.aload_n 0, 1) := by decide +kernel
theorem dX2_addGarden_13 : decode cX2_addGarden 13 = .ok (.getfield 67, 3) := by decide +kernel
theorem dX2_addGarden_16 : decode cX2_addGarden 16 = .ok (.iload_n 1, 1) := by decide +kernel
theorem dX2_addGarden_17 : decode cX2_addGarden 17 = .ok (.invokestatic 83, 3) := by decide +kernel
theorem dX2_addGarden_20 : decode cX2_addGarden 20 = .ok (.aload_n 0, 1) := by decide +kernel
theorem dX2_addGarden_21 : decode cX2_addGarden 21 = .ok (.dup, 1) := by decide +kernel
theorem dX2_addGarden_22 : decode cX2_addGarden 22 = .ok (.getfield 67, 3) := by decide +kernel
theorem dX2_addGarden_25 : decode cX2_addGarden 25 = .ok (.iconst 1, 1) := by decide +kernel
theorem dX2_addGarden_26 : decode cX2_addGarden 26 = .ok (.iadd, 1) := by decide +kernel
theorem dX2_addGarden_27 : decode cX2_addGarden 27 = .ok (.putfield 67, 3) := by decide +kernel
theorem dX2_addGarden_30 : decode cX2_addGarden 30 = .ok (.return_, 1) := by decide +kernel
theorem dX2_addChild_0 : decode cX2_addChild 0 = .ok (.aload_n 0, 1) := by decide +kernel
theorem dX2_addChild_1 : decode cX2_addChild 1 = .ok (.getfield 70, 3) := by decide +kernel
theorem dX2_addChild_4 : decode cX2_addChild 4 = .ok (.bipush 10, 2) := by decide +kernel
theorem dX2_addChild_6 : decode cX2_addChild 6 = .ok (.if_icmp .ge 111, 3) := by decide +kernel
theorem dX2_addChild_9 : decode cX2_addChild 9 = .ok (.aload_n 0, 1) := by decide +kernel
theorem dX2_addChild_10 : decode cX2_addChild 10 = .ok (.getfield 18, 3) := by decide +kernel
theorem dX2_addChild_13 : decode cX2_addChild 13 = .ok (.aload_n 0, 1) := by decide +kernel
theorem dX2_addChild_14 : decode cX2_addChild 14 = .ok (.getfield 70, 3) := by decide +kernel
theorem dX2_addChild_17 : decode cX2_addChild 17 = .ok (.iload_n 1, 1) := by decide +kernel
theorem dX2_addChild_18 : decode cX2_addChild 18 = .ok (.invokestatic 83, 3) := by decide +kernel
theorem dX2_addChild_21 : decode cX2_addChild 21 = .ok (.aload_n 0, 1) := by decide +kernel
theorem dX2_addChild_22 : decode cX2_addChild 22 = .ok (.getfield 21, 3) := by decide +kernel
theorem dX2_addChild_25 : decode cX2_addChild 25 = .ok (.aload_n 0, 1) := by decide +kernel
theorem dX2_addChild_26 : decode cX2_addChild 26 = .ok (.getfield 70, 3) := by decide +kernel
theorem dX2_addChild_29 : decode cX2_addChild 29 = .ok (.iload_n 2, 1) := by decide +kernel
theorem dX2_addChild_30 : decode cX2_addChild 30 = .ok (.invokestatic 83, 3) := by decide +kernel
theorem dX2_addChild_33 : decode cX2_addChild 33 = .ok (.aload_n 0, 1) := by decide +kernel
theorem dX2_addChild_34 : decode cX2_addChild 34 = .ok (.getfield 24, 3) := by decide +kernel
theorem dX2_addChild_37 : decode cX2_addChild 37 = .ok (.aload_n 0, 1) := by decide +kernel
theorem dX2_addChild_38 : decode cX2_addChild 38 = .ok (.getfield 70, 3) := by decide +kernel
theorem dX2_addChild_41 : decode cX2_addChild 41 = .ok (.iload_n 3, 1) := by decide +kernel
theorem dX2_addChild_42 : decode cX2_addChild 42 = .ok (.invokestatic 83, 3) := by decide +kernel
theorem dX2_addChild_45 : decode cX2_addChild 45 = .ok (.aload_n 0, 1) := by decide +kernel
theorem dX2_addChild_46 : decode cX2_addChild 46 = .ok (.getfield 27, 3) := by decide +kernel
theorem dX2_addChild_49 : decode cX2_addChild 49 = .ok (.aload_n 0, 1) := by decide +kernel
theorem dX2_addChild_50 : decode cX2_addChild 50 = .ok (.getfield 70, 3) := by decide +kernel
theorem dX2_addChild_53 : decode cX2_addChild 53 = .ok (.iload 4, 2) := by decide +kernel
theorem dX2_addChild_55 : decode cX2_addChild 55 = .ok (.invokestatic 83, 3) := by decide +kernel
theorem dX2_addChild_58 : decode cX2_addChild 58 = .ok (.aload_n 0, 1) := by decide +kernel
theorem dX2_addChild_59 : decode cX2_addChild 59 = .ok (.getfield 30, 3) := by decide +kernel
theorem dX2_addChild_62 : decode cX2_addChild 62 = .ok (.aload_n 0, 1) := by decide +kernel
theorem dX2_addChild_63 : decode cX2_addChild 63 = .ok (.getfield 70, 3) := by decide +kernel
theorem dX2_addChild_66 : decode cX2_addChild 66 = .ok (.iload 5, 2) := by decide +kernel
theorem dX2_addChild_68 : decode cX2_addChild 68 = .ok (.invokestatic 83, 3) := by decide +kernel
theorem dX2_addChild_71 : decode cX2_addChild 71 = .ok (.aload_n 0, 1) := by decide +kernel
theorem dX2_addChild_72 : decode cX2_addChild 72 = .ok (.getfield 33, 3) := by decide +kernel
theorem dX2_addChild_75 : decode cX2_addChild 75 = .ok (.aload_n 0, 1) := by decide +kernel
theorem dX2_addChild_76 : decode cX2_addChild 76 = .ok (.getfield 70, 3) := by decide +kernel
theorem dX2_addChild_79 : decode cX2_addChild 79 = .ok (.iconst (-1), 1) := by decide +kernel
theorem dX2_addChild_80 : decode cX2_addChild 80 = .ok (.invokestatic 83, 3) := by decide +kernel
theorem dX2_addChild_83 : decode cX2_addChild 83 = .ok (.aload_n 0, 1) := by decide +kernel
theorem dX2_addChild_84 : decode cX2_addChild 84 = .ok (.getfield 36, 3) := by decide +kernel
theorem dX2_addChild_87 : decode cX2_addChild 87 = .ok (.aload_n 0, 1) := by decide +kernel
theorem dX2_addChild_88 : decode cX2_addChild 88 = .ok (.getfield 70, 3) := by decide +kernel
theorem dX2_addChild_91 : decode cX2_addChild 91 = .ok (.iconst 0, 1) := by decide +kernel
theorem dX2_addChild_92 : decode cX2_addChild 92 = .ok (.invokestatic 83, 3) := by decide +kernel
theorem dX2_addChild_95 : decode cX2_addChild 95 = .ok (.aload_n 0, 1) := by decide +kernel
theorem dX2_addChild_96 : decode cX2_addChild 96 = .ok (.getfield 39, 3) := by decide +kernel
theorem dX2_addChild_99 : decode cX2_addChild 99 = .ok (.aload_n 0, 1) := by decide +kernel
theorem dX2_addChild_100 : decode cX2_addChild 100 = .ok (.getfield 70, 3) := by decide +kernel
theorem dX2_addChild_103 : decode cX2_addChild 103 = .ok (.iconst 0, 1) := by decide +kernel
theorem dX2_addChild_104 : decode cX2_addChild 104 = .ok (.invokestatic 83, 3) := by decide +kernel
theorem dX2_addChild_107 : decode cX2_addChild 107 = .ok (.aload_n 0, 1) := by decide +kernel
theorem dX2_addChild_108 : decode cX2_addChild 108 = .ok (.dup, 1) := by decide +kernel
theorem dX2_addChild_109 : decode cX2_addChild 109 = .ok (.getfield 70, 3) := by decide +kernel
theorem dX2_addChild_112 : decode cX2_addChild 112 = .ok (.iconst 1, 1) := by decide +kernel
theorem dX2_addChild_113 : decode cX2_addChild 113 = .ok (.iadd, 1) := by decide +kernel
theorem dX2_addChild_114 : decode cX2_addChild 114 = .ok (.putfield 70, 3) := by decide +kernel
theorem dX2_addChild_117 : decode cX2_addChild 117 = .ok (.return_, 1) := by decide +kernel
theorem dX2_childNamed_0 : decode cX2_childNamed 0 = .ok (.iconst 0, 1) := by decide +kernel
theorem dX2_childNamed_1 : decode cX2_childNamed 1 = .ok (.istore_n 2, 1) := by decide +kernel
theorem dX2_childNamed_2 : decode cX2_childNamed 2 = .ok (.iload_n 2, 1) := by decide +kernel
theorem dX2_childNamed_3 : decode cX2_childNamed 3 = .ok (.aload_n 0, 1) := by decide +kernel
theorem dX2_childNamed_4 : decode cX2_childNamed 4 = .ok (.getfield 70, 3) := by decide +kernel
theorem dX2_childNamed_7 : decode cX2_childNamed 7 = .ok (.if_icmp .ge 23, 3) := by decide +kernel
theorem dX2_childNamed_10 : decode cX2_childNamed 10 = .ok (.aload_n 0, 1) := by decide +kernel
theorem dX2_childNamed_11 : decode cX2_childNamed 11 = .ok (.getfield 18, 3) := by decide +kernel
theorem dX2_childNamed_14 : decode cX2_childNamed 14 = .ok (.iload_n 2, 1) := by decide +kernel
theorem dX2_childNamed_15 : decode cX2_childNamed 15 = .ok (.invokestatic 87, 3) := by decide +kernel
theorem dX2_childNamed_18 : decode cX2_childNamed 18 = .ok (.iload_n 1, 1) := by decide +kernel
theorem dX2_childNamed_19 : decode cX2_childNamed 19 = .ok (.if_icmp .ne 5, 3) := by decide +kernel
theorem dX2_childNamed_22 : decode cX2_childNamed 22 = .ok (.iload_n 2, 1) := by decide +kernel
theorem dX2_childNamed_23 : decode cX2_childNamed 23 = .ok (.ireturn, 1) := by decide +kernel
theorem dX2_childNamed_24 : decode cX2_childNamed 24 = .ok (.iinc 2 1, 3) := by decide +kernel
theorem dX2_childNamed_27 : decode cX2_childNamed 27 = .ok (.goto (-25), 3) := by decide +kernel
theorem dX2_childNamed_30 : decode cX2_childNamed 30 = .ok (.iconst (-1), 1) := by decide +kernel
theorem dX2_childNamed_31 : decode cX2_childNamed 31 = .ok (.ireturn, 1) := by decide +kernel
theorem dX2_countFans_0 : decode cX2_countFans 0 = .ok (.iload_n 1, 1) := by decide +kernel
theorem dX2_countFans_1 : decode cX2_countFans 1 = .ok (.aload_n 0, 1) := by decide +kernel
theorem dX2_countFans_2 : decode cX2_countFans 2 = .ok (.getfield 21, 3) := by decide +kernel
theorem dX2_countFans_5 : decode cX2_countFans 5 = .ok (.aload_n 0, 1) := by decide +kernel
theorem dX2_countFans_6 : decode cX2_countFans 6 = .ok (.getfield 70, 3) := by decide +kernel
theorem dX2_countFans_9 : decode cX2_countFans 9 = .ok (.invokestatic 91, 3) := by decide +kernel
theorem dX2_countFans_12 : decode cX2_countFans 12 = .ok (.ireturn, 1) := by decide +kernel
theorem dX2_daysUntil_0 : decode cX2_daysUntil 0 = .ok (.iload_n 1, 1) := by decide +kernel
theorem dX2_daysUntil_1 : decode cX2_daysUntil 1 = .ok (.aload_n 0, 1) := by decide +kernel
theorem dX2_daysUntil_2 : decode cX2_daysUntil 2 = .ok (.getfield 46, 3) := by decide +kernel
theorem dX2_daysUntil_5 : decode cX2_daysUntil 5 = .ok (.if_icmp .le 12, 3) := by decide +kernel
theorem dX2_daysUntil_8 : decode cX2_daysUntil 8 = .ok (.iload_n 1, 1) := by decide +kernel
theorem dX2_daysUntil_9 : decode cX2_daysUntil 9 = .ok (.aload_n 0, 1) := by decide +kernel
theorem dX2_daysUntil_10 : decode cX2_daysUntil 10 = .ok (.getfield 46, 3) := by decide +kernel
theorem dX2_daysUntil_13 : decode cX2_daysUntil 13 = .ok (.isub, 1) := by decide +kernel
theorem dX2_daysUntil_14 : decode cX2_daysUntil 14 = .ok (.goto 13, 3) := by decide +kernel
theorem dX2_daysUntil_17 : decode cX2_daysUntil 17 = .ok (.iload_n 1, 1) := by decide +kernel
theorem dX2_daysUntil_18 : decode cX2_daysUntil 18 = .ok (.aload_n 0, 1) := by decide +kernel
theorem dX2_daysUntil_19 : decode cX2_daysUntil 19 = .ok (.getfield 46, 3) := by decide +kernel
theorem dX2_daysUntil_22 : decode cX2_daysUntil 22 = .ok (.isub, 1) := by decide +kernel
theorem dX2_daysUntil_23 : decode cX2_daysUntil 23 = .ok (.sipush 360, 3) := by decide +kernel
theorem dX2_daysUntil_26 : decode cX2_daysUntil 26 = .ok (.iadd, 1) := by decide +kernel
theorem dX2_daysUntil_27 : decode cX2_daysUntil 27 = .ok (.ireturn, 1) := by decide +kernel
theorem dX2_daysLeft_0 : decode cX2_daysLeft 0 = .ok (.bipush 99, 2) := by decide +kernel
theorem dX2_daysLeft_2 : decode cX2_daysLeft 2 = .ok (.aload_n 0, 1) := by decide +kernel
theorem dX2_daysLeft_3 : decode cX2_daysLeft 3 = .ok (.getfield 42, 3) := by decide +kernel
theorem dX2_daysLeft_6 : decode cX2_daysLeft 6 = .ok (.isub, 1) := by decide +kernel
theorem dX2_daysLeft_7 : decode cX2_daysLeft 7 = .ok (.sipush 360, 3) := by decide +kernel
theorem dX2_daysLeft_10 : decode cX2_daysLeft 10 = .ok (.imul, 1) := by decide +kernel
theorem dX2_daysLeft_11 : decode cX2_daysLeft 11 = .ok (.sipush 360, 3) := by decide +kernel
theorem dX2_daysLeft_14 : decode cX2_daysLeft 14 = .ok (.iadd, 1) := by decide +kernel
theorem dX2_daysLeft_15 : decode cX2_daysLeft 15 = .ok (.iconst 1, 1) := by decide +kernel
theorem dX2_daysLeft_16 : decode cX2_daysLeft 16 = .ok (.isub, 1) := by decide +kernel
theorem dX2_daysLeft_17 : decode cX2_daysLeft 17 = .ok (.aload_n 0, 1) := by decide +kernel
theorem dX2_daysLeft_18 : decode cX2_daysLeft 18 = .ok (.getfield 46, 3) := by decide +kernel
theorem dX2_daysLeft_21 : decode cX2_daysLeft 21 = .ok (.isub, 1) := by decide +kernel
theorem dX2_daysLeft_22 : decode cX2_daysLeft 22 = .ok (.ireturn, 1) := by decide +kernel
theorem dX2_reasonAgainst_0 : decode cX2_reasonAgainst 0 = .ok (.iconst 0, 1) := by decide +kernel
theorem dX2_reasonAgainst_1 : decode cX2_reasonAgainst 1 = .ok (.istore 4, 2) := by decide +kernel
theorem dX2_reasonAgainst_3 : decode cX2_reasonAgainst 3 = .ok (.iload 4, 2) := by decide +kernel
theorem dX2_reasonAgainst_5 : decode cX2_reasonAgainst 5 = .ok (.aload_n 0, 1) := by decide +kernel
theorem dX2_reasonAgainst_6 : decode cX2_reasonAgainst 6 = .ok (.getfield 70, 3) := by decide +kernel
theorem dX2_reasonAgainst_9 : decode cX2_reasonAgainst 9 = .ok (.if_icmp .ge 43, 3) := by decide +kernel
theorem dX2_reasonAgainst_12 : decode cX2_reasonAgainst 12 = .ok (.iload 4, 2) := by decide +kernel
theorem dX2_reasonAgainst_14 : decode cX2_reasonAgainst 14 = .ok (.iload_n 1, 1) := by decide +kernel
theorem dX2_reasonAgainst_15 : decode cX2_reasonAgainst 15 = .ok (.if_icmp .eq 31, 3) := by decide +kernel
theorem dX2_reasonAgainst_18 : decode cX2_reasonAgainst 18 = .ok (.aload_n 0, 1) := by decide +kernel
theorem dX2_reasonAgainst_19 : decode cX2_reasonAgainst 19 = .ok (.getfield 30, 3) := by decide +kernel
theorem dX2_reasonAgainst_22 : decode cX2_reasonAgainst 22 = .ok (.iload 4, 2) := by decide +kernel
theorem dX2_reasonAgainst_24 : decode cX2_reasonAgainst 24 = .ok (.invokestatic 87, 3) := by decide +kernel
theorem dX2_reasonAgainst_27 : decode cX2_reasonAgainst 27 = .ok (.iload_n 2, 1) := by decide +kernel
theorem dX2_reasonAgainst_28 : decode cX2_reasonAgainst 28 = .ok (.if_icmp .ne 18, 3) := by decide +kernel
theorem dX2_reasonAgainst_31 : decode cX2_reasonAgainst 31 = .ok (.aload_n 0, 1) := by decide +kernel
theorem dX2_reasonAgainst_32 : decode cX2_reasonAgainst 32 = .ok (.getfield 33, 3) := by decide +kernel
theorem dX2_reasonAgainst_35 : decode cX2_reasonAgainst 35 = .ok (.iload 4, 2) := by decide +kernel
theorem dX2_reasonAgainst_37 : decode cX2_reasonAgainst 37 = .ok (.invokestatic 87, 3) := by decide +kernel
theorem dX2_reasonAgainst_40 : decode cX2_reasonAgainst 40 = .ok (.iload_n 3, 1) := by decide +kernel
theorem dX2_reasonAgainst_41 : decode cX2_reasonAgainst 41 = .ok (.if_icmp .ne 5, 3) := by decide +kernel
theorem dX2_reasonAgainst_44 : decode cX2_reasonAgainst 44 = .ok (.iconst 1, 1) := by decide +kernel
theorem dX2_reasonAgainst_45 : decode cX2_reasonAgainst 45 = .ok (.ireturn, 1) := by decide +kernel
theorem dX2_reasonAgainst_46 : decode cX2_reasonAgainst 46 = .ok (.iinc 4 1, 3) := by decide +kernel
theorem dX2_reasonAgainst_49 : decode cX2_reasonAgainst 49 = .ok (.goto (-46), 3) := by decide +kernel
theorem dX2_reasonAgainst_52 : decode cX2_reasonAgainst 52 = .ok (.aload_n 0, 1) := by decide +kernel
theorem dX2_reasonAgainst_53 : decode cX2_reasonAgainst 53 = .ok (.getfield 15, 3) := by decide +kernel
theorem dX2_reasonAgainst_56 : decode cX2_reasonAgainst 56 = .ok (.iload_n 2, 1) := by decide +kernel
theorem dX2_reasonAgainst_57 : decode cX2_reasonAgainst 57 = .ok (.invokestatic 87, 3) := by decide +kernel
theorem dX2_reasonAgainst_60 : decode cX2_reasonAgainst 60 = .ok (.aload_n 0, 1) := by decide +kernel
theorem dX2_reasonAgainst_61 : decode cX2_reasonAgainst 61 = .ok (.aload_n 0, 1) := by decide +kernel
theorem dX2_reasonAgainst_62 : decode cX2_reasonAgainst 62 = .ok (.getfield 21, 3) := by decide +kernel
theorem dX2_reasonAgainst_65 : decode cX2_reasonAgainst 65 = .ok (.iload_n 1, 1) := by decide +kernel
theorem dX2_reasonAgainst_66 : decode cX2_reasonAgainst 66 = .ok (.invokestatic 87, 3) := by decide +kernel
theorem dX2_reasonAgainst_69 : decode cX2_reasonAgainst 69 = .ok (.invokevirtual 95, 3) := by decide +kernel
theorem dX2_reasonAgainst_72 : decode cX2_reasonAgainst 72 = .ok (.if_icmp .ge 7, 3) := by decide +kernel
theorem dX2_reasonAgainst_75 : decode cX2_reasonAgainst 75 = .ok (.iconst 2, 1) := by decide +kernel
theorem dX2_reasonAgainst_76 : decode cX2_reasonAgainst 76 = .ok (.goto 4, 3) := by decide +kernel
theorem dX2_reasonAgainst_79 : decode cX2_reasonAgainst 79 = .ok (.iconst 0, 1) := by decide +kernel
theorem dX2_reasonAgainst_80 : decode cX2_reasonAgainst 80 = .ok (.ireturn, 1) := by decide +kernel
theorem dX2_countDraws_0 : decode cX2_countDraws 0 = .ok (.aload_n 0, 1) := by decide +kernel
theorem dX2_countDraws_1 : decode cX2_countDraws 1 = .ok (.getfield 30, 3) := by decide +kernel
theorem dX2_countDraws_4 : decode cX2_countDraws 4 = .ok (.iload_n 1, 1) := by decide +kernel
theorem dX2_countDraws_5 : decode cX2_countDraws 5 = .ok (.invokestatic 87, 3) := by decide +kernel
theorem dX2_countDraws_8 : decode cX2_countDraws 8 = .ok (.istore_n 2, 1) := by decide +kernel
theorem dX2_countDraws_9 : decode cX2_countDraws 9 = .ok (.aload_n 0, 1) := by decide +kernel
theorem dX2_countDraws_10 : decode cX2_countDraws 10 = .ok (.getfield 49, 3) := by decide +kernel
theorem dX2_countDraws_13 : decode cX2_countDraws 13 = .ok (.istore_n 3, 1) := by decide +kernel
theorem dX2_countDraws_14 : decode cX2_countDraws 14 = .ok (.iconst 1, 1) := by decide +kernel
theorem dX2_countDraws_15 : decode cX2_countDraws 15 = .ok (.istore 4, 2) := by decide +kernel
theorem dX2_countDraws_17 : decode cX2_countDraws 17 = .ok (.iload 4, 2) := by decide +kernel
theorem dX2_countDraws_19 : decode cX2_countDraws 19 = .ok (.bipush 20, 2) := by decide +kernel
theorem dX2_countDraws_21 : decode cX2_countDraws 21 = .ok (.if_icmp .gt 31, 3) := by decide +kernel
theorem dX2_countDraws_24 : decode cX2_countDraws 24 = .ok (.iload_n 3, 1) := by decide +kernel
theorem dX2_countDraws_25 : decode cX2_countDraws 25 = .ok (.invokestatic 99, 3) := by decide +kernel
theorem dX2_countDraws_28 : decode cX2_countDraws 28 = .ok (.istore_n 3, 1) := by decide +kernel
theorem dX2_countDraws_29 : decode cX2_countDraws 29 = .ok (.aload_n 0, 1) := by decide +kernel
theorem dX2_countDraws_30 : decode cX2_countDraws 30 = .ok (.iload_n 1, 1) := by decide +kernel
theorem dX2_countDraws_31 : decode cX2_countDraws 31 = .ok (.iload_n 2, 1) := by decide +kernel
theorem dX2_countDraws_32 : decode cX2_countDraws 32 = .ok (.iload_n 3, 1) := by decide +kernel
theorem dX2_countDraws_33 : decode cX2_countDraws 33 = .ok (.sipush 360, 3) := by decide +kernel
theorem dX2_countDraws_36 : decode cX2_countDraws 36 = .ok (.irem, 1) := by decide +kernel
theorem dX2_countDraws_37 : decode cX2_countDraws 37 = .ok (.invokevirtual 102, 3) := by decide +kernel
theorem dX2_countDraws_40 : decode cX2_countDraws 40 = .ok (.ifCond .ne 6, 3) := by decide +kernel
theorem dX2_countDraws_43 : decode cX2_countDraws 43 = .ok (.iload 4, 2) := by decide +kernel
theorem dX2_countDraws_45 : decode cX2_countDraws 45 = .ok (.ireturn, 1) := by decide +kernel
theorem dX2_countDraws_46 : decode cX2_countDraws 46 = .ok (.iinc 4 1, 3) := by decide +kernel
theorem dX2_countDraws_49 : decode cX2_countDraws 49 = .ok (.goto (-32), 3) := by decide +kernel
theorem dX2_countDraws_52 : decode cX2_countDraws 52 = .ok (.iconst (-1), 1) := by decide +kernel
theorem dX2_countDraws_53 : decode cX2_countDraws 53 = .ok (.ireturn, 1) := by decide +kernel
theorem dX2_drawBirthday_0 : decode cX2_drawBirthday 0 = .ok (.iconst 0, 1) := by decide +kernel
theorem dX2_drawBirthday_1 : decode cX2_drawBirthday 1 = .ok (.istore_n 3, 1) := by decide +kernel
theorem dX2_drawBirthday_2 : decode cX2_drawBirthday 2 = .ok (.iload_n 3, 1) := by decide +kernel
theorem dX2_drawBirthday_3 : decode cX2_drawBirthday 3 = .ok (.iload_n 2, 1) := by decide +kernel
theorem dX2_drawBirthday_4 : decode cX2_drawBirthday 4 = .ok (.if_icmp .ge 20, 3) := by decide +kernel
theorem dX2_drawBirthday_7 : decode cX2_drawBirthday 7 = .ok (.aload_n 0, 1) := by decide +kernel
theorem dX2_drawBirthday_8 : decode cX2_drawBirthday 8 = .ok (.aload_n 0, 1) := by decide +kernel
theorem dX2_drawBirthday_9 : decode cX2_drawBirthday 9 = .ok (.getfield 49, 3) := by decide +kernel
theorem dX2_drawBirthday_12 : decode cX2_drawBirthday 12 = .ok (.invokestatic 99, 3) := by decide +kernel
theorem dX2_drawBirthday_15 : decode cX2_drawBirthday 15 = .ok (.putfield 49, 3) := by decide +kernel
theorem dX2_drawBirthday_18 : decode cX2_drawBirthday 18 = .ok (.iinc 3 1, 3) := by decide +kernel
theorem dX2_drawBirthday_21 : decode cX2_drawBirthday 21 = .ok (.goto (-19), 3) := by decide +kernel
theorem dX2_drawBirthday_24 : decode cX2_drawBirthday 24 = .ok (.aload_n 0, 1) := by decide +kernel
theorem dX2_drawBirthday_25 : decode cX2_drawBirthday 25 = .ok (.getfield 33, 3) := by decide +kernel
theorem dX2_drawBirthday_28 : decode cX2_drawBirthday 28 = .ok (.iload_n 1, 1) := by decide +kernel
theorem dX2_drawBirthday_29 : decode cX2_drawBirthday 29 = .ok (.aload_n 0, 1) := by decide +kernel
theorem dX2_drawBirthday_30 : decode cX2_drawBirthday 30 = .ok (.getfield 49, 3) := by decide +kernel
theorem dX2_drawBirthday_33 : decode cX2_drawBirthday 33 = .ok (.sipush 360, 3) := by decide +kernel
theorem dX2_drawBirthday_36 : decode cX2_drawBirthday 36 = .ok (.irem, 1) := by decide +kernel
theorem dX2_drawBirthday_37 : decode cX2_drawBirthday 37 = .ok (.invokestatic 83, 3) := by decide +kernel
theorem dX2_drawBirthday_40 : decode cX2_drawBirthday 40 = .ok (.return_, 1) := by decide +kernel
theorem dX2_pass_0 : decode cX2_pass 0 = .ok (.iconst 0, 1) := by decide +kernel
theorem dX2_pass_1 : decode cX2_pass 1 = .ok (.istore_n 2, 1) := by decide +kernel
theorem dX2_pass_2 : decode cX2_pass 2 = .ok (.iconst 0, 1) := by decide +kernel
theorem dX2_pass_3 : decode cX2_pass 3 = .ok (.istore_n 3, 1) := by decide +kernel
theorem dX2_pass_4 : decode cX2_pass 4 = .ok (.iload_n 3, 1) := by decide +kernel
theorem dX2_pass_5 : decode cX2_pass 5 = .ok (.iload_n 1, 1) := by decide +kernel
theorem dX2_pass_6 : decode cX2_pass 6 = .ok (.if_icmp .ge 59, 3) := by decide +kernel
theorem dX2_pass_9 : decode cX2_pass 9 = .ok (.aload_n 0, 1) := by decide +kernel
theorem dX2_pass_10 : decode cX2_pass 10 = .ok (.invokevirtual 106, 3) := by decide +kernel
theorem dX2_pass_13 : decode cX2_pass 13 = .ok (.iconst 0, 1) := by decide +kernel
theorem dX2_pass_14 : decode cX2_pass 14 = .ok (.istore 4, 2) := by decide +kernel
theorem dX2_pass_16 : decode cX2_pass 16 = .ok (.iload 4, 2) := by decide +kernel
theorem dX2_pass_18 : decode cX2_pass 18 = .ok (.aload_n 0, 1) := by decide +kernel
theorem dX2_pass_19 : decode cX2_pass 19 = .ok (.getfield 70, 3) := by decide +kernel
theorem dX2_pass_22 : decode cX2_pass 22 = .ok (.if_icmp .ge 37, 3) := by decide +kernel
theorem dX2_pass_25 : decode cX2_pass 25 = .ok (.aload_n 0, 1) := by decide +kernel
theorem dX2_pass_26 : decode cX2_pass 26 = .ok (.getfield 33, 3) := by decide +kernel
theorem dX2_pass_29 : decode cX2_pass 29 = .ok (.iload 4, 2) := by decide +kernel
theorem dX2_pass_31 : decode cX2_pass 31 = .ok (.invokestatic 87, 3) := by decide +kernel
theorem dX2_pass_34 : decode cX2_pass 34 = .ok (.aload_n 0, 1) := by decide +kernel
theorem dX2_pass_35 : decode cX2_pass 35 = .ok (.getfield 46, 3) := by decide +kernel
theorem dX2_pass_38 : decode cX2_pass 38 = .ok (.if_icmp .ne 15, 3) := by decide +kernel
theorem dX2_pass_41 : decode cX2_pass 41 = .ok (.aload_n 0, 1) := by decide +kernel
theorem dX2_pass_42 : decode cX2_pass 42 = .ok (.iload 4, 2) := by decide +kernel
theorem dX2_pass_44 : decode cX2_pass 44 = .ok (.invokevirtual 109, 3) := by decide +kernel
theorem dX2_pass_47 : decode cX2_pass 47 = .ok (.ifCond .eq 6, 3) := by decide +kernel
theorem dX2_pass_50 : decode cX2_pass 50 = .ok (.iinc 2 1, 3) := by decide +kernel
theorem dX2_pass_53 : decode cX2_pass 53 = .ok (.iinc 4 1, 3) := by decide +kernel
theorem dX2_pass_56 : decode cX2_pass 56 = .ok (.goto (-40), 3) := by decide +kernel
theorem dX2_pass_59 : decode cX2_pass 59 = .ok (.iinc 3 1, 3) := by decide +kernel
theorem dX2_pass_62 : decode cX2_pass 62 = .ok (.goto (-58), 3) := by decide +kernel
theorem dX2_pass_65 : decode cX2_pass 65 = .ok (.iload_n 2, 1) := by decide +kernel
theorem dX2_pass_66 : decode cX2_pass 66 = .ok (.ireturn, 1) := by decide +kernel
theorem dX2_beginNextDate_0 : decode cX2_beginNextDate 0 = .ok (.aload_n 0, 1) := by decide +kernel
theorem dX2_beginNextDate_1 : decode cX2_beginNextDate 1 = .ok (.dup, 1) := by decide +kernel
theorem dX2_beginNextDate_2 : decode cX2_beginNextDate 2 = .ok (.getfield 46, 3) := by decide +kernel
theorem dX2_beginNextDate_5 : decode cX2_beginNextDate 5 = .ok (.iconst 1, 1) := by decide +kernel
theorem dX2_beginNextDate_6 : decode cX2_beginNextDate 6 = .ok (.iadd, 1) := by decide +kernel
theorem dX2_beginNextDate_7 : decode cX2_beginNextDate 7 = .ok (.putfield 46, 3) := by decide +kernel
theorem dX2_beginNextDate_10 : decode cX2_beginNextDate 10 = .ok (.aload_n 0, 1) := by decide +kernel
theorem dX2_beginNextDate_11 : decode cX2_beginNextDate 11 = .ok (.getfield 46, 3) := by decide +kernel
theorem dX2_beginNextDate_14 : decode cX2_beginNextDate 14 = .ok (.sipush 360, 3) := by decide +kernel
theorem dX2_beginNextDate_17 : decode cX2_beginNextDate 17 = .ok (.if_icmp .ne 18, 3) := by decide +kernel
theorem dX2_beginNextDate_20 : decode cX2_beginNextDate 20 = .ok (.aload_n 0, 1) := by decide +kernel
theorem dX2_beginNextDate_21 : decode cX2_beginNextDate 21 = .ok (.iconst 0, 1) := by decide +kernel
theorem dX2_beginNextDate_22 : decode cX2_beginNextDate 22 = .ok (.putfield 46, 3) := by decide +kernel
theorem dX2_beginNextDate_25 : decode cX2_beginNextDate 25 = .ok (.aload_n 0, 1) := by decide +kernel
theorem dX2_beginNextDate_26 : decode cX2_beginNextDate 26 = .ok (.dup, 1) := by decide +kernel
theorem dX2_beginNextDate_27 : decode cX2_beginNextDate 27 = .ok (.getfield 42, 3) := by decide +kernel
theorem dX2_beginNextDate_30 : decode cX2_beginNextDate 30 = .ok (.iconst 1, 1) := by decide +kernel
theorem dX2_beginNextDate_31 : decode cX2_beginNextDate 31 = .ok (.iadd, 1) := by decide +kernel
theorem dX2_beginNextDate_32 : decode cX2_beginNextDate 32 = .ok (.putfield 42, 3) := by decide +kernel
theorem dX2_beginNextDate_35 : decode cX2_beginNextDate 35 = .ok (.return_, 1) := by decide +kernel
theorem dX2_celebrate_0 : decode cX2_celebrate 0 = .ok (.aload_n 0, 1) := by decide +kernel
theorem dX2_celebrate_1 : decode cX2_celebrate 1 = .ok (.getfield 27, 3) := by decide +kernel
theorem dX2_celebrate_4 : decode cX2_celebrate 4 = .ok (.iload_n 1, 1) := by decide +kernel
theorem dX2_celebrate_5 : decode cX2_celebrate 5 = .ok (.iconst 1, 1) := by decide +kernel
theorem dX2_celebrate_6 : decode cX2_celebrate 6 = .ok (.invokestatic 113, 3) := by decide +kernel
theorem dX2_celebrate_9 : decode cX2_celebrate 9 = .ok (.aload_n 0, 1) := by decide +kernel
theorem dX2_celebrate_10 : decode cX2_celebrate 10 = .ok (.aload_n 0, 1) := by decide +kernel
theorem dX2_celebrate_11 : decode cX2_celebrate 11 = .ok (.getfield 21, 3) := by decide +kernel
theorem dX2_celebrate_14 : decode cX2_celebrate 14 = .ok (.iload_n 1, 1) := by decide +kernel
theorem dX2_celebrate_15 : decode cX2_celebrate 15 = .ok (.invokestatic 87, 3) := by decide +kernel
theorem dX2_celebrate_18 : decode cX2_celebrate 18 = .ok (.invokevirtual 116, 3) := by decide +kernel
theorem dX2_celebrate_21 : decode cX2_celebrate 21 = .ok (.istore_n 2, 1) := by decide +kernel
theorem dX2_celebrate_22 : decode cX2_celebrate 22 = .ok (.iload_n 2, 1) := by decide +kernel
theorem dX2_celebrate_23 : decode cX2_celebrate 23 = .ok (.iconst (-1), 1) := by decide +kernel
theorem dX2_celebrate_24 : decode cX2_celebrate 24 = .ok (.if_icmp .ne 15, 3) := by decide +kernel
theorem dX2_celebrate_27 : decode cX2_celebrate 27 = .ok (.aload_n 0, 1) := by decide +kernel
theorem dX2_celebrate_28 : decode cX2_celebrate 28 = .ok (.dup, 1) := by decide +kernel
theorem dX2_celebrate_29 : decode cX2_celebrate 29 = .ok (.getfield 64, 3) := by decide +kernel
theorem dX2_celebrate_32 : decode cX2_celebrate 32 = .ok (.iconst 1, 1) := by decide +kernel
theorem dX2_celebrate_33 : decode cX2_celebrate 33 = .ok (.iadd, 1) := by decide +kernel
theorem dX2_celebrate_34 : decode cX2_celebrate 34 = .ok (.putfield 64, 3) := by decide +kernel
theorem dX2_celebrate_37 : decode cX2_celebrate 37 = .ok (.iconst 0, 1) := by decide +kernel
theorem dX2_celebrate_38 : decode cX2_celebrate 38 = .ok (.ireturn, 1) := by decide +kernel
theorem dX2_celebrate_39 : decode cX2_celebrate 39 = .ok (.aload_n 0, 1) := by decide +kernel
theorem dX2_celebrate_40 : decode cX2_celebrate 40 = .ok (.getfield 27, 3) := by decide +kernel
theorem dX2_celebrate_43 : decode cX2_celebrate 43 = .ok (.iload_n 1, 1) := by decide +kernel
theorem dX2_celebrate_44 : decode cX2_celebrate 44 = .ok (.invokestatic 87, 3) := by decide +kernel
theorem dX2_celebrate_47 : decode cX2_celebrate 47 = .ok (.istore_n 3, 1) := by decide +kernel
theorem dX2_celebrate_48 : decode cX2_celebrate 48 = .ok (.iload_n 3, 1) := by decide +kernel
theorem dX2_celebrate_49 : decode cX2_celebrate 49 = .ok (.aload_n 0, 1) := by decide +kernel
theorem dX2_celebrate_50 : decode cX2_celebrate 50 = .ok (.getfield 52, 3) := by decide +kernel
theorem dX2_celebrate_53 : decode cX2_celebrate 53 = .ok (.invokestatic 119, 3) := by decide +kernel
theorem dX2_celebrate_56 : decode cX2_celebrate 56 = .ok (.istore 4, 2) := by decide +kernel
theorem dX2_celebrate_58 : decode cX2_celebrate 58 = .ok (.aload_n 0, 1) := by decide +kernel
theorem dX2_celebrate_59 : decode cX2_celebrate 59 = .ok (.getfield 9, 3) := by decide +kernel
theorem dX2_celebrate_62 : decode cX2_celebrate 62 = .ok (.iload_n 2, 1) := by decide +kernel
theorem dX2_celebrate_63 : decode cX2_celebrate 63 = .ok (.iconst (-1), 1) := by decide +kernel
theorem dX2_celebrate_64 : decode cX2_celebrate 64 = .ok (.invokestatic 113, 3) := by decide +kernel
theorem dX2_celebrate_67 : decode cX2_celebrate 67 = .ok (.aload_n 0, 1) := by decide +kernel
theorem dX2_celebrate_68 : decode cX2_celebrate 68 = .ok (.dup, 1) := by decide +kernel
theorem dX2_celebrate_69 : decode cX2_celebrate 69 = .ok (.getfield 52, 3) := by decide +kernel
theorem dX2_celebrate_72 : decode cX2_celebrate 72 = .ok (.iload 4, 2) := by decide +kernel
theorem dX2_celebrate_74 : decode cX2_celebrate 74 = .ok (.isub, 1) := by decide +kernel
theorem dX2_celebrate_75 : decode cX2_celebrate 75 = .ok (.putfield 52, 3) := by decide +kernel
theorem dX2_celebrate_78 : decode cX2_celebrate 78 = .ok (.aload_n 0, 1) := by decide +kernel
theorem dX2_celebrate_79 : decode cX2_celebrate 79 = .ok (.dup, 1) := by decide +kernel
theorem dX2_celebrate_80 : decode cX2_celebrate 80 = .ok (.getfield 61, 3) := by decide +kernel
theorem dX2_celebrate_83 : decode cX2_celebrate 83 = .ok (.iload 4, 2) := by decide +kernel
theorem dX2_celebrate_85 : decode cX2_celebrate 85 = .ok (.iadd, 1) := by decide +kernel
theorem dX2_celebrate_86 : decode cX2_celebrate 86 = .ok (.putfield 61, 3) := by decide +kernel
theorem dX2_celebrate_89 : decode cX2_celebrate 89 = .ok (.aload_n 0, 1) := by decide +kernel
theorem dX2_celebrate_90 : decode cX2_celebrate 90 = .ok (.getfield 36, 3) := by decide +kernel
theorem dX2_celebrate_93 : decode cX2_celebrate 93 = .ok (.iload_n 1, 1) := by decide +kernel
theorem dX2_celebrate_94 : decode cX2_celebrate 94 = .ok (.iconst 1, 1) := by decide +kernel
theorem dX2_celebrate_95 : decode cX2_celebrate 95 = .ok (.invokestatic 113, 3) := by decide +kernel
theorem dX2_celebrate_98 : decode cX2_celebrate 98 = .ok (.iload 4, 2) := by decide +kernel
theorem dX2_celebrate_100 : decode cX2_celebrate 100 = .ok (.iload_n 3, 1) := by decide +kernel
theorem dX2_celebrate_101 : decode cX2_celebrate 101 = .ok (.if_icmp .ne 23, 3) := by decide +kernel
theorem dX2_celebrate_104 : decode cX2_celebrate 104 = .ok (.aload_n 0, 1) := by decide +kernel
theorem dX2_celebrate_105 : decode cX2_celebrate 105 = .ok (.iload_n 1, 1) := by decide +kernel
theorem dX2_celebrate_106 : decode cX2_celebrate 106 = .ok (.iload_n 2, 1) := by decide +kernel
theorem dX2_celebrate_107 : decode cX2_celebrate 107 = .ok (.invokevirtual 125, 3) := by decide +kernel
theorem dX2_celebrate_110 : decode cX2_celebrate 110 = .ok (.iload 4, 2) := by decide +kernel
theorem dX2_celebrate_112 : decode cX2_celebrate 112 = .ok (.if_icmp .lt 12, 3) := by decide +kernel
theorem dX2_celebrate_115 : decode cX2_celebrate 115 = .ok (.aload_n 0, 1) := by decide +kernel
theorem dX2_celebrate_116 : decode cX2_celebrate 116 = .ok (.getfield 39, 3) := by decide +kernel
theorem dX2_celebrate_119 : decode cX2_celebrate 119 = .ok (.iload_n 1, 1) := by decide +kernel
theorem dX2_celebrate_120 : decode cX2_celebrate 120 = .ok (.iconst 1, 1) := by decide +kernel
theorem dX2_celebrate_121 : decode cX2_celebrate 121 = .ok (.invokestatic 113, 3) := by decide +kernel
theorem dX2_celebrate_124 : decode cX2_celebrate 124 = .ok (.iconst 1, 1) := by decide +kernel
theorem dX2_celebrate_125 : decode cX2_celebrate 125 = .ok (.ireturn, 1) := by decide +kernel
theorem dX2_cakeFor_0 : decode cX2_cakeFor 0 = .ok (.iconst 0, 1) := by decide +kernel
theorem dX2_cakeFor_1 : decode cX2_cakeFor 1 = .ok (.istore_n 2, 1) := by decide +kernel
theorem dX2_cakeFor_2 : decode cX2_cakeFor 2 = .ok (.iload_n 2, 1) := by decide +kernel
theorem dX2_cakeFor_3 : decode cX2_cakeFor 3 = .ok (.bipush 6, 2) := by decide +kernel
theorem dX2_cakeFor_5 : decode cX2_cakeFor 5 = .ok (.if_icmp .ge 29, 3) := by decide +kernel
theorem dX2_cakeFor_8 : decode cX2_cakeFor 8 = .ok (.iload_n 1, 1) := by decide +kernel
theorem dX2_cakeFor_9 : decode cX2_cakeFor 9 = .ok (.iload_n 2, 1) := by decide +kernel
theorem dX2_cakeFor_10 : decode cX2_cakeFor 10 = .ok (.iadd, 1) := by decide +kernel
theorem dX2_cakeFor_11 : decode cX2_cakeFor 11 = .ok (.bipush 6, 2) := by decide +kernel
theorem dX2_cakeFor_13 : decode cX2_cakeFor 13 = .ok (.irem, 1) := by decide +kernel
theorem dX2_cakeFor_14 : decode cX2_cakeFor 14 = .ok (.istore_n 3, 1) := by decide +kernel
theorem dX2_cakeFor_15 : decode cX2_cakeFor 15 = .ok (.aload_n 0, 1) := by decide +kernel
theorem dX2_cakeFor_16 : decode cX2_cakeFor 16 = .ok (.getfield 9, 3) := by decide +kernel
theorem dX2_cakeFor_19 : decode cX2_cakeFor 19 = .ok (.iload_n 3, 1) := by decide +kernel
theorem dX2_cakeFor_20 : decode cX2_cakeFor 20 = .ok (.invokestatic 87, 3) := by decide +kernel
theorem dX2_cakeFor_23 : decode cX2_cakeFor 23 = .ok (.ifCond .le 5, 3) := by decide +kernel
theorem dX2_cakeFor_26 : decode cX2_cakeFor 26 = .ok (.iload_n 3, 1) := by decide +kernel
theorem dX2_cakeFor_27 : decode cX2_cakeFor 27 = .ok (.ireturn, 1) := by decide +kernel
theorem dX2_cakeFor_28 : decode cX2_cakeFor 28 = .ok (.iinc 2 1, 3) := by decide +kernel
theorem dX2_cakeFor_31 : decode cX2_cakeFor 31 = .ok (.goto (-29), 3) := by decide +kernel
theorem dX2_cakeFor_34 : decode cX2_cakeFor 34 = .ok (.iconst (-1), 1) := by decide +kernel
theorem dX2_cakeFor_35 : decode cX2_cakeFor 35 = .ok (.ireturn, 1) := by decide +kernel
theorem dX2_partyStrength_0 : decode cX2_partyStrength 0 = .ok (.iload_n 2, 1) := by decide +kernel
theorem dX2_partyStrength_1 : decode cX2_partyStrength 1 = .ok (.aload_n 0, 1) := by decide +kernel
theorem dX2_partyStrength_2 : decode cX2_partyStrength 2 = .ok (.getfield 21, 3) := by decide +kernel
theorem dX2_partyStrength_5 : decode cX2_partyStrength 5 = .ok (.aload_n 0, 1) := by decide +kernel
theorem dX2_partyStrength_6 : decode cX2_partyStrength 6 = .ok (.getfield 70, 3) := by decide +kernel
theorem dX2_partyStrength_9 : decode cX2_partyStrength 9 = .ok (.invokestatic 91, 3) := by decide +kernel
theorem dX2_partyStrength_12 : decode cX2_partyStrength 12 = .ok (.istore_n 3, 1) := by decide +kernel
theorem dX2_partyStrength_13 : decode cX2_partyStrength 13 = .ok (.aload_n 0, 1) := by decide +kernel
theorem dX2_partyStrength_14 : decode cX2_partyStrength 14 = .ok (.getfield 21, 3) := by decide +kernel
theorem dX2_partyStrength_17 : decode cX2_partyStrength 17 = .ok (.iload_n 1, 1) := by decide +kernel
theorem dX2_partyStrength_18 : decode cX2_partyStrength 18 = .ok (.invokestatic 87, 3) := by decide +kernel
theorem dX2_partyStrength_21 : decode cX2_partyStrength 21 = .ok (.iload_n 2, 1) := by decide +kernel
theorem dX2_partyStrength_22 : decode cX2_partyStrength 22 = .ok (.if_icmp .ne 6, 3) := by decide +kernel
theorem dX2_partyStrength_25 : decode cX2_partyStrength 25 = .ok (.iinc 3 (-1), 3) := by decide +kernel
theorem dX2_partyStrength_28 : decode cX2_partyStrength 28 = .ok (.iload_n 3, 1) := by decide +kernel
theorem dX2_partyStrength_29 : decode cX2_partyStrength 29 = .ok (.aload_n 0, 1) := by decide +kernel
theorem dX2_partyStrength_30 : decode cX2_partyStrength 30 = .ok (.getfield 15, 3) := by decide +kernel
theorem dX2_partyStrength_33 : decode cX2_partyStrength 33 = .ok (.aload_n 0, 1) := by decide +kernel
theorem dX2_partyStrength_34 : decode cX2_partyStrength 34 = .ok (.getfield 30, 3) := by decide +kernel
theorem dX2_partyStrength_37 : decode cX2_partyStrength 37 = .ok (.iload_n 1, 1) := by decide +kernel
theorem dX2_partyStrength_38 : decode cX2_partyStrength 38 = .ok (.invokestatic 87, 3) := by decide +kernel
theorem dX2_partyStrength_41 : decode cX2_partyStrength 41 = .ok (.invokestatic 87, 3) := by decide +kernel
theorem dX2_partyStrength_44 : decode cX2_partyStrength 44 = .ok (.iconst 1, 1) := by decide +kernel
theorem dX2_partyStrength_45 : decode cX2_partyStrength 45 = .ok (.isub, 1) := by decide +kernel
theorem dX2_partyStrength_46 : decode cX2_partyStrength 46 = .ok (.invokestatic 119, 3) := by decide +kernel
theorem dX2_partyStrength_49 : decode cX2_partyStrength 49 = .ok (.istore 4, 2) := by decide +kernel
theorem dX2_partyStrength_51 : decode cX2_partyStrength 51 = .ok (.aload_n 0, 1) := by decide +kernel
theorem dX2_partyStrength_52 : decode cX2_partyStrength 52 = .ok (.getfield 24, 3) := by decide +kernel
theorem dX2_partyStrength_55 : decode cX2_partyStrength 55 = .ok (.iload_n 1, 1) := by decide +kernel
theorem dX2_partyStrength_56 : decode cX2_partyStrength 56 = .ok (.invokestatic 87, 3) := by decide +kernel
theorem dX2_partyStrength_59 : decode cX2_partyStrength 59 = .ok (.iload 4, 2) := by decide +kernel
theorem dX2_partyStrength_61 : decode cX2_partyStrength 61 = .ok (.iadd, 1) := by decide +kernel
theorem dX2_partyStrength_62 : decode cX2_partyStrength 62 = .ok (.ireturn, 1) := by decide +kernel
theorem dX3_init_0 : decode cX3_init 0 = .ok (.aload_n 0, 1) := by decide +kernel
theorem dX3_init_1 : decode cX3_init 1 = .ok (.invokespecial 1, 3) := by decide +kernel
theorem dX3_init_4 : decode cX3_init 4 = .ok (.aload_n 0, 1) := by decide +kernel
theorem dX3_init_5 : decode cX3_init 5 = .ok (.bipush 32, 2) := by decide +kernel
theorem dX3_init_7 : decode cX3_init 7 = .ok (.newarray .byte, 2) := by decide +kernel
theorem dX3_init_9 : decode cX3_init 9 = .ok (.putfield 9, 3) := by decide +kernel
theorem dX3_init_12 : decode cX3_init 12 = .ok (.aload_n 0, 1) := by decide +kernel
theorem dX3_init_13 : decode cX3_init 13 = .ok (.iconst (-1), 1) := by decide +kernel
theorem dX3_init_14 : decode cX3_init 14 = .ok (.putfield 13, 3) := by decide +kernel
theorem dX3_init_17 : decode cX3_init 17 = .ok (.aload_n 0, 1) := by decide +kernel
theorem dX3_init_18 : decode cX3_init 18 = .ok (.new 17, 3) := by decide +kernel
theorem dX3_init_21 : decode cX3_init 21 = .ok (.dup, 1) := by decide +kernel
theorem dX3_init_22 : decode cX3_init 22 = .ok (.invokespecial 19, 3) := by decide +kernel
theorem dX3_init_25 : decode cX3_init 25 = .ok (.putfield 20, 3) := by decide +kernel
theorem dX3_init_28 : decode cX3_init 28 = .ok (.aload_n 0, 1) := by decide +kernel
theorem dX3_init_29 : decode cX3_init 29 = .ok (.new 17, 3) := by decide +kernel
theorem dX3_init_32 : decode cX3_init 32 = .ok (.dup, 1) := by decide +kernel
theorem dX3_init_33 : decode cX3_init 33 = .ok (.invokespecial 19, 3) := by decide +kernel
theorem dX3_init_36 : decode cX3_init 36 = .ok (.putfield 24, 3) := by decide +kernel
theorem dX3_init_39 : decode cX3_init 39 = .ok (.aload_n 0, 1) := by decide +kernel
theorem dX3_init_40 : decode cX3_init 40 = .ok (.new 27, 3) := by decide +kernel
theorem dX3_init_43 : decode cX3_init 43 = .ok (.dup, 1) := by decide +kernel
theorem dX3_init_44 : decode cX3_init 44 = .ok (.invokespecial 29, 3) := by decide +kernel
theorem dX3_init_47 : decode cX3_init 47 = .ok (.putfield 30, 3) := by decide +kernel
theorem dX3_init_50 : decode cX3_init 50 = .ok (.aload_n 0, 1) := by decide +kernel
theorem dX3_init_51 : decode cX3_init 51 = .ok (.new 34, 3) := by decide +kernel
theorem dX3_init_54 : decode cX3_init 54 = .ok (.dup, 1) := by decide +kernel
theorem dX3_init_55 : decode cX3_init 55 = .ok (.invokespecial 36, 3) := by decide +kernel
theorem dX3_init_58 : decode cX3_init 58 = .ok (.putfield 37, 3) := by decide +kernel
theorem dX3_init_61 : decode cX3_init 61 = .ok (.aload_n 0, 1) := by decide +kernel
theorem dX3_init_62 : decode cX3_init 62 = .ok (.iconst 2, 1) := by decide +kernel
theorem dX3_init_63 : decode cX3_init 63 = .ok (.anewarray 17, 3) := by decide +kernel
theorem dX3_init_66 : decode cX3_init 66 = .ok (.putfield 41, 3) := by decide +kernel
theorem dX3_init_69 : decode cX3_init 69 = .ok (.aload_n 0, 1) := by decide +kernel
theorem dX3_init_70 : decode cX3_init 70 = .ok (.iconst 2, 1) := by decide +kernel
theorem dX3_init_71 : decode cX3_init 71 = .ok (.newarray .boolean, 2) := by decide +kernel
theorem dX3_init_73 : decode cX3_init 73 = .ok (.putfield 45, 3) := by decide +kernel
theorem dX3_init_76 : decode cX3_init 76 = .ok (.iconst 0, 1) := by decide +kernel
theorem dX3_init_77 : decode cX3_init 77 = .ok (.istore_n 1, 1) := by decide +kernel
theorem dX3_init_78 : decode cX3_init 78 = .ok (.iload_n 1, 1) := by decide +kernel
theorem dX3_init_79 : decode cX3_init 79 = .ok (.aload_n 0, 1) := by decide +kernel
theorem dX3_init_80 : decode cX3_init 80 = .ok (.getfield 41, 3) := by decide +kernel
theorem dX3_init_83 : decode cX3_init 83 = .ok (.arraylength, 1) := by decide +kernel
theorem dX3_init_84 : decode cX3_init 84 = .ok (.if_icmp .ge 22, 3) := by decide +kernel
theorem dX3_init_87 : decode cX3_init 87 = .ok (.aload_n 0, 1) := by decide +kernel
theorem dX3_init_88 : decode cX3_init 88 = .ok (.getfield 41, 3) := by decide +kernel
theorem dX3_init_91 : decode cX3_init 91 = .ok (.iload_n 1, 1) := by decide +kernel
theorem dX3_init_92 : decode cX3_init 92 = .ok (.new 17, 3) := by decide +kernel
theorem dX3_init_95 : decode cX3_init 95 = .ok (.dup, 1) := by decide +kernel
theorem dX3_init_96 : decode cX3_init 96 = .ok (.invokespecial 19, 3) := by decide +kernel
theorem dX3_init_99 : decode cX3_init 99 = .ok (.aastore, 1) := by decide +kernel
theorem dX3_init_100 : decode cX3_init 100 = .ok (.iinc 1 1, 3) := by decide +kernel
theorem dX3_init_103 : decode cX3_init 103 = .ok (.goto (-25), 3) := by decide +kernel
theorem dX3_init_106 : decode cX3_init 106 = .ok (.iconst 0, 1) := by decide +kernel
theorem dX3_init_107 : decode cX3_init 107 = .ok (.istore_n 1, 1) := by decide +kernel
theorem dX3_init_108 : decode cX3_init 108 = .ok (.iload_n 1, 1) := by decide +kernel
theorem dX3_init_109 : decode cX3_init 109 = .ok (.ldc 49, 2) := by decide +kernel
theorem dX3_init_111 : decode cX3_init 111 = .ok (.invokevirtual 51, 3) := by decide +kernel
theorem dX3_init_114 : decode cX3_init 114 = .ok (.if_icmp .ge 22, 3) := by decide +kernel
theorem dX3_init_117 : decode cX3_init 117 = .ok (.aload_n 0, 1) := by decide +kernel
theorem dX3_init_118 : decode cX3_init 118 = .ok (.getfield 30, 3) := by decide +kernel
theorem dX3_init_121 : decode cX3_init 121 = .ok (.ldc 49, 2) := by decide +kernel
theorem dX3_init_123 : decode cX3_init 123 = .ok (.iload_n 1, 1) := by decide +kernel
theorem dX3_init_124 : decode cX3_init 124 = .ok (.invokevirtual 57, 3) := by decide +kernel
theorem dX3_init_127 : decode cX3_init 127 = .ok (.invokevirtual 61, 3) := by decide +kernel
theorem dX3_init_130 : decode cX3_init 130 = .ok (.iinc 1 1, 3) := by decide +kernel
theorem dX3_init_133 : decode cX3_init 133 = .ok (.goto (-25), 3) := by decide +kernel
theorem dX3_init_136 : decode cX3_init 136 = .ok (.aload_n 0, 1) := by decide +kernel
theorem dX3_init_137 : decode cX3_init 137 = .ok (.getfield 30, 3) := by decide +kernel
theorem dX3_init_140 : decode cX3_init 140 = .ok (.aload_n 0, 1) := by decide +kernel
theorem dX3_init_141 : decode cX3_init 141 = .ok (.getfield 30, 3) := by decide +kernel
theorem dX3_init_144 : decode cX3_init 144 = .ok (.getfield 65, 3) := by decide +kernel
theorem dX3_init_147 : decode cX3_init 147 = .ok (.invokevirtual 68, 3) := by decide +kernel
theorem dX3_init_150 : decode cX3_init 150 = .ok (.aload_n 0, 1) := by decide +kernel
theorem dX3_init_151 : decode cX3_init 151 = .ok (.getfield 30, 3) := by decide +kernel
theorem dX3_init_154 : decode cX3_init 154 = .ok (.invokevirtual 71, 3) := by decide +kernel
theorem dX3_init_157 : decode cX3_init 157 = .ok (.aload_n 0, 1) := by decide +kernel
theorem dX3_init_158 : decode cX3_init 158 = .ok (.getfield 20, 3) := by decide +kernel
theorem dX3_init_161 : decode cX3_init 161 = .ok (.aload_n 0, 1) := by decide +kernel
theorem dX3_init_162 : decode cX3_init 162 = .ok (.getfield 30, 3) := by decide +kernel
theorem dX3_init_165 : decode cX3_init 165 = .ok (.getfield 74, 3) := by decide +kernel
theorem dX3_init_168 : decode cX3_init 168 = .ok (.invokevirtual 77, 3) := by decide +kernel
theorem dX3_init_171 : decode cX3_init 171 = .ok (.return_, 1) := by decide +kernel
theorem dX3_append_0 : decode cX3_append 0 = .ok (.aload_n 0, 1) := by decide +kernel
theorem dX3_append_1 : decode cX3_append 1 = .ok (.getfield 30, 3) := by decide +kernel
theorem dX3_append_4 : decode cX3_append 4 = .ok (.getfield 65, 3) := by decide +kernel
theorem dX3_append_7 : decode cX3_append 7 = .ok (.bipush 20, 2) := by decide +kernel
theorem dX3_append_9 : decode cX3_append 9 = .ok (.iadd, 1) := by decide +kernel
theorem dX3_append_10 : decode cX3_append 10 = .ok (.sipush 600, 3) := by decide +kernel
theorem dX3_append_13 : decode cX3_append 13 = .ok (.if_icmp .le 13, 3) := by decide +kernel
theorem dX3_append_16 : decode cX3_append 16 = .ok (.new 81, 3) := by decide +kernel
theorem dX3_append_19 : decode cX3_append 19 = .ok (.dup, 1) := by decide +kernel
theorem dX3_append_20 : decode cX3_append 20 = .ok (.ldc 83, 2) := by decide +kernel
theorem dX3_append_22 : decode cX3_append 22 = .ok (.invokespecial 85, 3) := by decide +kernel
theorem dX3_append_25 : decode cX3_append 25 = .ok (.athrow, 1) := by decide +kernel
theorem dX3_append_26 : decode cX3_append 26 = .ok (.aload_n 0, 1) := by decide +kernel
theorem dX3_append_27 : decode cX3_append 27 = .ok (.iload_n 1, 1) := by decide +kernel
theorem dX3_append_28 : decode cX3_append 28 = .ok (.invokevirtual 88, 3) := by decide +kernel
theorem dX3_append_31 : decode cX3_append 31 = .ok (.aload_n 0, 1) := by decide +kernel
theorem dX3_append_32 : decode cX3_append 32 = .ok (.iload_n 2, 1) := by decide +kernel
theorem dX3_append_33 : decode cX3_append 33 = .ok (.invokevirtual 88, 3) := by decide +kernel
theorem dX3_append_36 : decode cX3_append 36 = .ok (.aload_n 0, 1) := by decide +kernel
theorem dX3_append_37 : decode cX3_append 37 = .ok (.iload_n 3, 1) := by decide +kernel
theorem dX3_append_38 : decode cX3_append 38 = .ok (.invokevirtual 88, 3) := by decide +kernel
theorem dX3_append_41 : decode cX3_append 41 = .ok (.aload_n 0, 1) := by decide +kernel
theorem dX3_append_42 : decode cX3_append 42 = .ok (.iload 4, 2) := by decide +kernel
theorem dX3_append_44 : decode cX3_append 44 = .ok (.invokevirtual 88, 3) := by decide +kernel
theorem dX3_append_47 : decode cX3_append 47 = .ok (.aload_n 0, 1) := by decide +kernel
theorem dX3_append_48 : decode cX3_append 48 = .ok (.iload 5, 2) := by decide +kernel
theorem dX3_append_50 : decode cX3_append 50 = .ok (.invokevirtual 88, 3) := by decide +kernel
theorem dX3_append_53 : decode cX3_append 53 = .ok (.aload_n 0, 1) := by decide +kernel
theorem dX3_append_54 : decode cX3_append 54 = .ok (.getfield 30, 3) := by decide +kernel
theorem dX3_append_57 : decode cX3_append 57 = .ok (.getfield 65, 3) := by decide +kernel
theorem dX3_append_60 : decode cX3_append 60 = .ok (.ireturn, 1) := by decide +kernel
theorem dX3_appendFour_0 : decode cX3_appendFour 0 = .ok (.bipush 24, 2) := by decide +kernel
theorem dX3_appendFour_2 : decode cX3_appendFour 2 = .ok (.istore_n 2, 1) := by decide +kernel
theorem dX3_appendFour_3 : decode cX3_appendFour 3 = .ok (.iload_n 2, 1) := by decide +kernel
theorem dX3_appendFour_4 : decode cX3_appendFour 4 = .ok (.ifCond .lt 19, 3) := by decide +kernel
theorem dX3_appendFour_7 : decode cX3_appendFour 7 = .ok (.aload_n 0, 1) := by decide +kernel
theorem dX3_appendFour_8 : decode cX3_appendFour 8 = .ok (.getfield 30, 3) := by decide +kernel
theorem dX3_appendFour_11 : decode cX3_appendFour 11 = .ok (.iload_n 1, 1) := by decide +kernel
theorem dX3_appendFour_12 : decode cX3_appendFour 12 = .ok (.iload_n 2, 1) := by decide +kernel
theorem dX3_appendFour_13 : decode cX3_appendFour 13 = .ok (.ishr, 1) := by decide +kernel
theorem dX3_appendFour_14 : decode cX3_appendFour 14 = .ok (.invokevirtual 61, 3) := by decide +kernel
theorem dX3_appendFour_17 : decode cX3_appendFour 17 = .ok (.iinc 2 (-8), 3) := by decide +kernel
theorem dX3_appendFour_20 : decode cX3_appendFour 20 = .ok (.goto (-17), 3) := by decide +kernel
theorem dX3_appendFour_23 : decode cX3_appendFour 23 = .ok (.return_, 1) := by decide +kernel
theorem dX3_load_0 : decode cX3_load 0 = .ok (.iload_n 1, 1) := by decide +kernel
theorem dX3_load_1 : decode cX3_load 1 = .ok (.ifCond .lt 14, 3) := by decide +kernel
theorem dX3_load_4 : decode cX3_load 4 = .ok (.iload_n 1, 1) := by decide +kernel
theorem dX3_load_5 : decode cX3_load 5 = .ok (.aload_n 0, 1) := by decide +kernel
theorem dX3_load_6 : decode cX3_load 6 = .ok (.getfield 30, 3) := by decide +kernel
theorem dX3_load_9 : decode cX3_load 9 = .ok (.getfield 65, 3) := by decide +kernel
theorem dX3_load_12 : decode cX3_load 12 = .ok (.if_icmp .le 13, 3) := by decide +kernel
theorem dX3_load_15 : decode cX3_load 15 = .ok (.new 91, 3) := by decide +kernel
theorem dX3_load_18 : decode cX3_load 18 = .ok (.dup, 1) := by decide +kernel
theorem dX3_load_19 : decode cX3_load 19 = .ok (.ldc 93, 2) := by decide +kernel
theorem dX3_load_21 : decode cX3_load 21 = .ok (.invokespecial 95, 3) := by decide +kernel
theorem dX3_load_24 : decode cX3_load 24 = .ok (.athrow, 1) := by decide +kernel
theorem dX3_load_25 : decode cX3_load 25 = .ok (.aload_n 0, 1) := by decide +kernel
theorem dX3_load_26 : decode cX3_load 26 = .ok (.getfield 30, 3) := by decide +kernel
theorem dX3_load_29 : decode cX3_load 29 = .ok (.iload_n 1, 1) := by decide +kernel
theorem dX3_load_30 : decode cX3_load 30 = .ok (.invokevirtual 68, 3) := by decide +kernel
theorem dX3_load_33 : decode cX3_load 33 = .ok (.aload_n 0, 1) := by decide +kernel
theorem dX3_load_34 : decode cX3_load 34 = .ok (.getfield 30, 3) := by decide +kernel
theorem dX3_load_37 : decode cX3_load 37 = .ok (.invokevirtual 71, 3) := by decide +kernel
theorem dX3_load_40 : decode cX3_load 40 = .ok (.aload_n 0, 1) := by decide +kernel
theorem dX3_load_41 : decode cX3_load 41 = .ok (.aload_n 0, 1) := by decide +kernel
theorem dX3_load_42 : decode cX3_load 42 = .ok (.getfield 30, 3) := by decide +kernel
theorem dX3_load_45 : decode cX3_load 45 = .ok (.getfield 96, 3) := by decide +kernel
theorem dX3_load_48 : decode cX3_load 48 = .ok (.putfield 99, 3) := by decide +kernel
theorem dX3_load_51 : decode cX3_load 51 = .ok (.aload_n 0, 1) := by decide +kernel
theorem dX3_load_52 : decode cX3_load 52 = .ok (.aload_n 0, 1) := by decide +kernel
theorem dX3_load_53 : decode cX3_load 53 = .ok (.getfield 30, 3) := by decide +kernel
theorem dX3_load_56 : decode cX3_load 56 = .ok (.getfield 102, 3) := by decide +kernel
theorem dX3_load_59 : decode cX3_load 59 = .ok (.putfield 13, 3) := by decide +kernel
theorem dX3_load_62 : decode cX3_load 62 = .ok (.aload_n 0, 1) := by decide +kernel
theorem dX3_load_63 : decode cX3_load 63 = .ok (.getfield 99, 3) := by decide +kernel
theorem dX3_load_66 : decode cX3_load 66 = .ok (.ifCond .eq 13, 3) := by decide +kernel
theorem dX3_load_69 : decode cX3_load 69 = .ok (.new 105, 3) := by decide +kernel
theorem dX3_load_72 : decode cX3_load 72 = .ok (.dup, 1) := by decide +kernel
theorem dX3_load_73 : decode cX3_load 73 = .ok (.ldc 107, 2) := by decide +kernel
theorem dX3_load_75 : decode cX3_load 75 = .ok (.invokespecial 109, 3) := by decide +kernel
theorem dX3_load_78 : decode cX3_load 78 = .ok (.athrow, 1) := by decide +kernel
theorem dX3_load_79 : decode cX3_load 79 = .ok (.aload_n 0, 1) := by decide +kernel
theorem dX3_load_80 : decode cX3_load 80 = .ok (.getfield 20, 3) := by decide +kernel
theorem dX3_load_83 : decode cX3_load 83 = .ok (.aload_n 0, 1) := by decide +kernel
theorem dX3_load_84 : decode cX3_load 84 = .ok (.getfield 30, 3) := by decide +kernel
theorem dX3_load_87 : decode cX3_load 87 = .ok (.getfield 74, 3) := by decide +kernel
theorem dX3_load_90 : decode cX3_load 90 = .ok (.invokevirtual 77, 3) := by decide +kernel
theorem dX3_load_93 : decode cX3_load 93 = .ok (.aload_n 0, 1) := by decide +kernel
theorem dX3_load_94 : decode cX3_load 94 = .ok (.getfield 37, 3) := by decide +kernel
theorem dX3_load_97 : decode cX3_load 97 = .ok (.invokevirtual 110, 3) := by decide +kernel
theorem dX3_load_100 : decode cX3_load 100 = .ok (.iconst 0, 1) := by decide +kernel
theorem dX3_load_101 : decode cX3_load 101 = .ok (.istore_n 2, 1) := by decide +kernel
theorem dX3_load_102 : decode cX3_load 102 = .ok (.iload_n 2, 1) := by decide +kernel
theorem dX3_load_103 : decode cX3_load 103 = .ok (.aload_n 0, 1) := by decide +kernel
theorem dX3_load_104 : decode cX3_load 104 = .ok (.getfield 45, 3) := by decide +kernel
theorem dX3_load_107 : decode cX3_load 107 = .ok (.arraylength, 1) := by decide +kernel
theorem dX3_load_108 : decode cX3_load 108 = .ok (.if_icmp .ge 16, 3) := by decide +kernel
theorem dX3_load_111 : decode cX3_load 111 = .ok (.aload_n 0, 1) := by decide +kernel
theorem dX3_load_112 : decode cX3_load 112 = .ok (.getfield 45, 3) := by decide +kernel
theorem dX3_load_115 : decode cX3_load 115 = .ok (.iload_n 2, 1) := by decide +kernel
theorem dX3_load_116 : decode cX3_load 116 = .ok (.iconst 0, 1) := by decide +kernel
theorem dX3_load_117 : decode cX3_load 117 = .ok (.bastore, 1) := by decide +kernel
theorem dX3_load_118 : decode cX3_load 118 = .ok (.iinc 2 1, 3) := by decide +kernel
theorem dX3_load_121 : decode cX3_load 121 = .ok (.goto (-19), 3) := by decide +kernel
theorem dX3_load_124 : decode cX3_load 124 = .ok (.aload_n 0, 1) := by decide +kernel
theorem dX3_load_125 : decode cX3_load 125 = .ok (.getfield 20, 3) := by decide +kernel
theorem dX3_load_128 : decode cX3_load 128 = .ok (.getfield 113, 3) := by decide +kernel
theorem dX3_load_131 : decode cX3_load 131 = .ok (.ireturn, 1) := by decide +kernel
theorem dX3_errorKind_0 : decode cX3_errorKind 0 = .ok (.aload_n 0, 1) := by decide +kernel
theorem dX3_errorKind_1 : decode cX3_errorKind 1 = .ok (.getfield 99, 3) := by decide +kernel
theorem dX3_errorKind_4 : decode cX3_errorKind 4 = .ok (.ireturn, 1) := by decide +kernel
theorem dX3_errorOffset_0 : decode cX3_errorOffset 0 = .ok (.aload_n 0, 1) := by decide +kernel
theorem dX3_errorOffset_1 : decode cX3_errorOffset 1 = .ok (.getfield 13, 3) := by decide +kernel
theorem dX3_errorOffset_4 : decode cX3_errorOffset 4 = .ok (.ireturn, 1) := by decide +kernel
theorem dX3_year_0 : decode cX3_year 0 = .ok (.aload_n 0, 1) := by decide +kernel
theorem dX3_year_1 : decode cX3_year 1 = .ok (.getfield 20, 3) := by decide +kernel
theorem dX3_year_4 : decode cX3_year 4 = .ok (.getfield 116, 3) := by decide +kernel
theorem dX3_year_7 : decode cX3_year 7 = .ok (.ireturn, 1) := by decide +kernel
theorem dX3_month_0 : decode cX3_month 0 = .ok (.aload_n 0, 1) := by decide +kernel
theorem dX3_month_1 : decode cX3_month 1 = .ok (.getfield 20, 3) := by decide +kernel
theorem dX3_month_4 : decode cX3_month 4 = .ok (.getfield 119, 3) := by decide +kernel
theorem dX3_month_7 : decode cX3_month 7 = .ok (.invokestatic 122, 3) := by decide +kernel
theorem dX3_month_10 : decode cX3_month 10 = .ok (.ireturn, 1) := by decide +kernel
theorem dX3_dayOfMonth_0 : decode cX3_dayOfMonth 0 = .ok (.aload_n 0, 1) := by decide +kernel
theorem dX3_dayOfMonth_1 : decode cX3_dayOfMonth 1 = .ok (.getfield 20, 3) := by decide +kernel
theorem dX3_dayOfMonth_4 : decode cX3_dayOfMonth 4 = .ok (.getfield 119, 3) := by decide +kernel
theorem dX3_dayOfMonth_7 : decode cX3_dayOfMonth 7 = .ok (.invokestatic 126, 3) := by decide +kernel
theorem dX3_dayOfMonth_10 : decode cX3_dayOfMonth 10 = .ok (.ireturn, 1) := by decide +kernel
theorem dX3_seed_0 : decode cX3_seed 0 = .ok (.aload_n 0, 1) := by decide +kernel
theorem dX3_seed_1 : decode cX3_seed 1 = .ok (.getfield 20, 3) := by decide +kernel
theorem dX3_seed_4 : decode cX3_seed 4 = .ok (.getfield 129, 3) := by decide +kernel
theorem dX3_seed_7 : decode cX3_seed 7 = .ok (.ireturn, 1) := by decide +kernel
theorem dX3_nextDraw_0 : decode cX3_nextDraw 0 = .ok (.aload_n 0, 1) := by decide +kernel
theorem dX3_nextDraw_1 : decode cX3_nextDraw 1 = .ok (.getfield 20, 3) := by decide +kernel
theorem dX3_nextDraw_4 : decode cX3_nextDraw 4 = .ok (.getfield 129, 3) := by decide +kernel
theorem dX3_nextDraw_7 : decode cX3_nextDraw 7 = .ok (.invokestatic 132, 3) := by decide +kernel
theorem dX3_nextDraw_10 : decode cX3_nextDraw 10 = .ok (.sipush 360, 3) := by decide +kernel
theorem dX3_nextDraw_13 : decode cX3_nextDraw 13 = .ok (.irem, 1) := by decide +kernel
theorem dX3_nextDraw_14 : decode cX3_nextDraw 14 = .ok (.ireturn, 1) := by decide +kernel
theorem dX3_candles_0 : decode cX3_candles 0 = .ok (.aload_n 0, 1) := by decide +kernel
theorem dX3_candles_1 : decode cX3_candles 1 = .ok (.getfield 20, 3) := by decide +kernel
theorem dX3_candles_4 : decode cX3_candles 4 = .ok (.getfield 135, 3) := by decide +kernel
theorem dX3_candles_7 : decode cX3_candles 7 = .ok (.ireturn, 1) := by decide +kernel
theorem dX3_cakes_0 : decode cX3_cakes 0 = .ok (.iload_n 1, 1) := by decide +kernel
theorem dX3_cakes_1 : decode cX3_cakes 1 = .ok (.invokestatic 138, 3) := by decide +kernel
theorem dX3_cakes_4 : decode cX3_cakes 4 = .ok (.aload_n 0, 1) := by decide +kernel
theorem dX3_cakes_5 : decode cX3_cakes 5 = .ok (.getfield 20, 3) := by decide +kernel
theorem dX3_cakes_8 : decode cX3_cakes 8 = .ok (.getfield 141, 3) := by decide +kernel
theorem dX3_cakes_11 : decode cX3_cakes 11 = .ok (.iload_n 1, 1) := by decide +kernel
theorem dX3_cakes_12 : decode cX3_cakes 12 = .ok (.invokestatic 145, 3) := by decide +kernel
theorem dX3_cakes_15 : decode cX3_cakes 15 = .ok (.ireturn, 1) := by decide +kernel
theorem dX3_mostWantedCake_0 : decode cX3_mostWantedCake 0 = .ok (.iconst 0, 1) := by decide +kernel
theorem dX3_mostWantedCake_1 : decode cX3_mostWantedCake 1 = .ok (.istore_n 1, 1) := by decide +kernel
theorem dX3_mostWantedCake_2 : decode cX3_mostWantedCake 2 = .ok (.iconst 1, 1) := by decide +kernel
theorem dX3_mostWantedCake_3 : decode cX3_mostWantedCake 3 = .ok (.istore_n 2, 1) := by decide +kernel
theorem dX3_mostWantedCake_4 : decode cX3_mostWantedCake 4 = .ok (.iload_n 2, 1) := by decide +kernel
theorem dX3_mostWantedCake_5 : decode cX3_mostWantedCake 5 = .ok (.bipush 6, 2) := by decide +kernel
theorem dX3_mostWantedCake_7 : decode cX3_mostWantedCake 7 = .ok (.if_icmp .ge 30, 3) := by decide +kernel
theorem dX3_mostWantedCake_10 : decode cX3_mostWantedCake 10 = .ok (.aload_n 0, 1) := by decide +kernel
theorem dX3_mostWantedCake_11 : decode cX3_mostWantedCake 11 = .ok (.getfield 20, 3) := by decide +kernel
theorem dX3_mostWantedCake_14 : decode cX3_mostWantedCake 14 = .ok (.iload_n 2, 1) := by decide +kernel
theorem dX3_mostWantedCake_15 : decode cX3_mostWantedCake 15 = .ok (.invokevirtual 149, 3) := by decide +kernel
theorem dX3_mostWantedCake_18 : decode cX3_mostWantedCake 18 = .ok (.aload_n 0, 1) := by decide +kernel
theorem dX3_mostWantedCake_19 : decode cX3_mostWantedCake 19 = .ok (.getfield 20, 3) := by decide +kernel
theorem dX3_mostWantedCake_22 : decode cX3_mostWantedCake 22 = .ok (.iload_n 1, 1) := by decide +kernel
theorem dX3_mostWantedCake_23 : decode cX3_mostWantedCake 23 = .ok (.invokevirtual 149, 3) := by decide +kernel
theorem dX3_mostWantedCake_26 : decode cX3_mostWantedCake 26 = .ok (.if_icmp .le 5, 3) := by decide +kernel
theorem dX3_mostWantedCake_29 : decode cX3_mostWantedCake 29 = .ok (.iload_n 2, 1) := by decide +kernel
theorem dX3_mostWantedCake_30 : decode cX3_mostWantedCake 30 = .ok (.istore_n 1, 1) := by decide +kernel
theorem dX3_mostWantedCake_31 : decode cX3_mostWantedCake 31 = .ok (.iinc 2 1, 3) := by decide +kernel
theorem dX3_mostWantedCake_34 : decode cX3_mostWantedCake 34 = .ok (.goto (-30), 3) := by decide +kernel
theorem dX3_mostWantedCake_37 : decode cX3_mostWantedCake 37 = .ok (.iload_n 1, 1) := by decide +kernel
theorem dX3_mostWantedCake_38 : decode cX3_mostWantedCake 38 = .ok (.ireturn, 1) := by decide +kernel
theorem dX3_gardenCount_0 : decode cX3_gardenCount 0 = .ok (.aload_n 0, 1) := by decide +kernel
theorem dX3_gardenCount_1 : decode cX3_gardenCount 1 = .ok (.getfield 20, 3) := by decide +kernel
theorem dX3_gardenCount_4 : decode cX3_gardenCount 4 = .ok (.getfield 152, 3) := by decide +kernel
theorem dX3_gardenCount_7 : decode cX3_gardenCount 7 = .ok (.ireturn, 1) := by decide +kernel
theorem dX3_seatsOf_0 : decode cX3_seatsOf 0 = .ok (.aload_n 0, 1) := by decide +kernel
theorem dX3_seatsOf_1 : decode cX3_seatsOf 1 = .ok (.iload_n 1, 1) := by decide +kernel
theorem dX3_seatsOf_2 : decode cX3_seatsOf 2 = .ok (.invokevirtual 155, 3) := by decide +kernel
theorem dX3_seatsOf_5 : decode cX3_seatsOf 5 = .ok (.aload_n 0, 1) := by decide +kernel
theorem dX3_seatsOf_6 : decode cX3_seatsOf 6 = .ok (.getfield 20, 3) := by decide +kernel
theorem dX3_seatsOf_9 : decode cX3_seatsOf 9 = .ok (.getfield 158, 3) := by decide +kernel
theorem dX3_seatsOf_12 : decode cX3_seatsOf 12 = .ok (.iload_n 1, 1) := by decide +kernel
theorem dX3_seatsOf_13 : decode cX3_seatsOf 13 = .ok (.invokestatic 145, 3) := by decide +kernel
theorem dX3_seatsOf_16 : decode cX3_seatsOf 16 = .ok (.ireturn, 1) := by decide +kernel
theorem dX3_childrenOf_0 : decode cX3_childrenOf 0 = .ok (.aload_n 0, 1) := by decide +kernel
theorem dX3_childrenOf_1 : decode cX3_childrenOf 1 = .ok (.iload_n 1, 1) := by decide +kernel
theorem dX3_childrenOf_2 : decode cX3_childrenOf 2 = .ok (.invokevirtual 155, 3) := by decide +kernel
theorem dX3_childrenOf_5 : decode cX3_childrenOf 5 = .ok (.iload_n 1, 1) := by decide +kernel
theorem dX3_childrenOf_6 : decode cX3_childrenOf 6 = .ok (.aload_n 0, 1) := by decide +kernel
theorem dX3_childrenOf_7 : decode cX3_childrenOf 7 = .ok (.getfield 20, 3) := by decide +kernel
theorem dX3_childrenOf_10 : decode cX3_childrenOf 10 = .ok (.getfield 161, 3) := by decide +kernel
theorem dX3_childrenOf_13 : decode cX3_childrenOf 13 = .ok (.aload_n 0, 1) := by decide +kernel
theorem dX3_childrenOf_14 : decode cX3_childrenOf 14 = .ok (.getfield 20, 3) := by decide +kernel
theorem dX3_childrenOf_17 : decode cX3_childrenOf 17 = .ok (.getfield 113, 3) := by decide +kernel
theorem dX3_childrenOf_20 : decode cX3_childrenOf 20 = .ok (.invokestatic 164, 3) := by decide +kernel
theorem dX3_childrenOf_23 : decode cX3_childrenOf 23 = .ok (.ireturn, 1) := by decide +kernel
theorem dX3_partyIn_0 : decode cX3_partyIn 0 = .ok (.aload_n 0, 1) := by decide +kernel
theorem dX3_partyIn_1 : decode cX3_partyIn 1 = .ok (.iload_n 1, 1) := by decide +kernel
theorem dX3_partyIn_2 : decode cX3_partyIn 2 = .ok (.invokevirtual 155, 3) := by decide +kernel
theorem dX3_partyIn_5 : decode cX3_partyIn 5 = .ok (.iload_n 2, 1) := by decide +kernel
theorem dX3_partyIn_6 : decode cX3_partyIn 6 = .ok (.iload_n 3, 1) := by decide +kernel
theorem dX3_partyIn_7 : decode cX3_partyIn 7 = .ok (.invokestatic 168, 3) := by decide +kernel
theorem dX3_partyIn_10 : decode cX3_partyIn 10 = .ok (.iload_n 2, 1) := by decide +kernel
theorem dX3_partyIn_11 : decode cX3_partyIn 11 = .ok (.iload_n 3, 1) := by decide +kernel
theorem dX3_partyIn_12 : decode cX3_partyIn 12 = .ok (.invokestatic 172, 3) := by decide +kernel
theorem dX3_partyIn_15 : decode cX3_partyIn 15 = .ok (.istore 4, 2) := by decide +kernel
theorem dX3_partyIn_17 : decode cX3_partyIn 17 = .ok (.iconst 0, 1) := by decide +kernel
theorem dX3_partyIn_18 : decode cX3_partyIn 18 = .ok (.istore 5, 2) := by decide +kernel
theorem dX3_partyIn_20 : decode cX3_partyIn 20 = .ok (.iload 5, 2) := by decide +kernel
theorem dX3_partyIn_22 : decode cX3_partyIn 22 = .ok (.aload_n 0, 1) := by decide +kernel
theorem dX3_partyIn_23 : decode cX3_partyIn 23 = .ok (.getfield 20, 3) := by decide +kernel
theorem dX3_partyIn_26 : decode cX3_partyIn 26 = .ok (.getfield 113, 3) := by decide +kernel
theorem dX3_partyIn_29 : decode cX3_partyIn 29 = .ok (.if_icmp .ge 45, 3) := by decide +kernel
theorem dX3_partyIn_32 : decode cX3_partyIn 32 = .ok (.aload_n 0, 1) := by decide +kernel
theorem dX3_partyIn_33 : decode cX3_partyIn 33 = .ok (.getfield 20, 3) := by decide +kernel
theorem dX3_partyIn_36 : decode cX3_partyIn 36 = .ok (.getfield 161, 3) := by decide +kernel
theorem dX3_partyIn_39 : decode cX3_partyIn 39 = .ok (.iload 5, 2) := by decide +kernel
theorem dX3_partyIn_41 : decode cX3_partyIn 41 = .ok (.invokestatic 145, 3) := by decide +kernel
theorem dX3_partyIn_44 : decode cX3_partyIn 44 = .ok (.iload_n 1, 1) := by decide +kernel
theorem dX3_partyIn_45 : decode cX3_partyIn 45 = .ok (.if_icmp .ne 23, 3) := by decide +kernel
theorem dX3_partyIn_48 : decode cX3_partyIn 48 = .ok (.aload_n 0, 1) := by decide +kernel
theorem dX3_partyIn_49 : decode cX3_partyIn 49 = .ok (.getfield 20, 3) := by decide +kernel
theorem dX3_partyIn_52 : decode cX3_partyIn 52 = .ok (.getfield 176, 3) := by decide +kernel
theorem dX3_partyIn_55 : decode cX3_partyIn 55 = .ok (.iload 5, 2) := by decide +kernel
theorem dX3_partyIn_57 : decode cX3_partyIn 57 = .ok (.invokestatic 145, 3) := by decide +kernel
theorem dX3_partyIn_60 : decode cX3_partyIn 60 = .ok (.iload 4, 2) := by decide +kernel
theorem dX3_partyIn_62 : decode cX3_partyIn 62 = .ok (.if_icmp .ne 6, 3) := by decide +kernel
theorem dX3_partyIn_65 : decode cX3_partyIn 65 = .ok (.iload 5, 2) := by decide +kernel
theorem dX3_partyIn_67 : decode cX3_partyIn 67 = .ok (.ireturn, 1) := by decide +kernel
theorem dX3_partyIn_68 : decode cX3_partyIn 68 = .ok (.iinc 5 1, 3) := by decide +kernel
theorem dX3_partyIn_71 : decode cX3_partyIn 71 = .ok (.goto (-51), 3) := by decide +kernel
theorem dX3_partyIn_74 : decode cX3_partyIn 74 = .ok (.iconst (-1), 1) := by decide +kernel
theorem dX3_partyIn_75 : decode cX3_partyIn 75 = .ok (.ireturn, 1) := by decide +kernel
theorem dX3_childCount_0 : decode cX3_childCount 0 = .ok (.aload_n 0, 1) := by decide +kernel
theorem dX3_childCount_1 : decode cX3_childCount 1 = .ok (.getfield 20, 3) := by decide +kernel
theorem dX3_childCount_4 : decode cX3_childCount 4 = .ok (.getfield 113, 3) := by decide +kernel
theorem dX3_childCount_7 : decode cX3_childCount 7 = .ok (.ireturn, 1) := by decide +kernel
theorem dX3_cakeOf_0 : decode cX3_cakeOf 0 = .ok (.aload_n 0, 1) := by decide +kernel
theorem dX3_cakeOf_1 : decode cX3_cakeOf 1 = .ok (.iload_n 1, 1) := by decide +kernel
theorem dX3_cakeOf_2 : decode cX3_cakeOf 2 = .ok (.invokevirtual 179, 3) := by decide +kernel
theorem dX3_cakeOf_5 : decode cX3_cakeOf 5 = .ok (.aload_n 0, 1) := by decide +kernel
theorem dX3_cakeOf_6 : decode cX3_cakeOf 6 = .ok (.getfield 20, 3) := by decide +kernel
theorem dX3_cakeOf_9 : decode cX3_cakeOf 9 = .ok (.getfield 182, 3) := by decide +kernel
theorem dX3_cakeOf_12 : decode cX3_cakeOf 12 = .ok (.iload_n 1, 1) := by decide +kernel
theorem dX3_cakeOf_13 : decode cX3_cakeOf 13 = .ok (.invokestatic 145, 3) := by decide +kernel
theorem dX3_cakeOf_16 : decode cX3_cakeOf 16 = .ok (.ireturn, 1) := by decide +kernel
theorem dX3_breathOf_0 : decode cX3_breathOf 0 = .ok (.aload_n 0, 1) := by decide +kernel
theorem dX3_breathOf_1 : decode cX3_breathOf 1 = .ok (.iload_n 1, 1) := by decide +kernel
theorem dX3_breathOf_2 : decode cX3_breathOf 2 = .ok (.invokevirtual 179, 3) := by decide +kernel
theorem dX3_breathOf_5 : decode cX3_breathOf 5 = .ok (.aload_n 0, 1) := by decide +kernel
theorem dX3_breathOf_6 : decode cX3_breathOf 6 = .ok (.getfield 20, 3) := by decide +kernel
theorem dX3_breathOf_9 : decode cX3_breathOf 9 = .ok (.getfield 185, 3) := by decide +kernel
theorem dX3_breathOf_12 : decode cX3_breathOf 12 = .ok (.iload_n 1, 1) := by decide +kernel
theorem dX3_breathOf_13 : decode cX3_breathOf 13 = .ok (.invokestatic 145, 3) := by decide +kernel
theorem dX3_breathOf_16 : decode cX3_breathOf 16 = .ok (.ireturn, 1) := by decide +kernel
theorem dX3_ageOf_0 : decode cX3_ageOf 0 = .ok (.aload_n 0, 1) := by decide +kernel
theorem dX3_ageOf_1 : decode cX3_ageOf 1 = .ok (.iload_n 1, 1) := by decide +kernel
theorem dX3_ageOf_2 : decode cX3_ageOf 2 = .ok (.invokevirtual 179, 3) := by decide +kernel
theorem dX3_ageOf_5 : decode cX3_ageOf 5 = .ok (.aload_n 0, 1) := by decide +kernel
theorem dX3_ageOf_6 : decode cX3_ageOf 6 = .ok (.getfield 20, 3) := by decide +kernel
theorem dX3_ageOf_9 : decode cX3_ageOf 9 = .ok (.getfield 188, 3) := by decide +kernel
theorem dX3_ageOf_12 : decode cX3_ageOf 12 = .ok (.iload_n 1, 1) := by decide +kernel
theorem dX3_ageOf_13 : decode cX3_ageOf 13 = .ok (.invokestatic 145, 3) := by decide +kernel
theorem dX3_ageOf_16 : decode cX3_ageOf 16 = .ok (.ireturn, 1) := by decide +kernel
theorem dX3_gardenOf_0 : decode cX3_gardenOf 0 = .ok (.aload_n 0, 1) := by decide +kernel
theorem dX3_gardenOf_1 : decode cX3_gardenOf 1 = .ok (.iload_n 1, 1) := by decide +kernel
theorem dX3_gardenOf_2 : decode cX3_gardenOf 2 = .ok (.invokevirtual 179, 3) := by decide +kernel
theorem dX3_gardenOf_5 : decode cX3_gardenOf 5 = .ok (.aload_n 0, 1) := by decide +kernel
theorem dX3_gardenOf_6 : decode cX3_gardenOf 6 = .ok (.getfield 20, 3) := by decide +kernel
theorem dX3_gardenOf_9 : decode cX3_gardenOf 9 = .ok (.getfield 161, 3) := by decide +kernel
theorem dX3_gardenOf_12 : decode cX3_gardenOf 12 = .ok (.iload_n 1, 1) := by decide +kernel
theorem dX3_gardenOf_13 : decode cX3_gardenOf 13 = .ok (.invokestatic 145, 3) := by decide +kernel
theorem dX3_gardenOf_16 : decode cX3_gardenOf 16 = .ok (.ireturn, 1) := by decide +kernel
theorem dX3_birthdayOf_0 : decode cX3_birthdayOf 0 = .ok (.aload_n 0, 1) := by decide +kernel
theorem dX3_birthdayOf_1 : decode cX3_birthdayOf 1 = .ok (.iload_n 1, 1) := by decide +kernel
theorem dX3_birthdayOf_2 : decode cX3_birthdayOf 2 = .ok (.invokevirtual 179, 3) := by decide +kernel
theorem dX3_birthdayOf_5 : decode cX3_birthdayOf 5 = .ok (.aload_n 0, 1) := by decide +kernel
theorem dX3_birthdayOf_6 : decode cX3_birthdayOf 6 = .ok (.getfield 20, 3) := by decide +kernel
theorem dX3_birthdayOf_9 : decode cX3_birthdayOf 9 = .ok (.getfield 176, 3) := by decide +kernel
theorem dX3_birthdayOf_12 : decode cX3_birthdayOf 12 = .ok (.iload_n 1, 1) := by decide +kernel
theorem dX3_birthdayOf_13 : decode cX3_birthdayOf 13 = .ok (.invokestatic 145, 3) := by decide +kernel
theorem dX3_birthdayOf_16 : decode cX3_birthdayOf 16 = .ok (.ireturn, 1) := by decide +kernel
theorem dX3_daysUntilBirthday_0 : decode cX3_daysUntilBirthday 0 = .ok (.aload_n 0, 1) := by decide +kernel
theorem dX3_daysUntilBirthday_1 : decode cX3_daysUntilBirthday 1 = .ok (.iload_n 1, 1) := by decide +kernel
theorem dX3_daysUntilBirthday_2 : decode cX3_daysUntilBirthday 2 = .ok (.invokevirtual 179, 3) := by decide +kernel
theorem dX3_daysUntilBirthday_5 : decode cX3_daysUntilBirthday 5 = .ok (.aload_n 0, 1) := by decide +kernel
theorem dX3_daysUntilBirthday_6 : decode cX3_daysUntilBirthday 6 = .ok (.getfield 20, 3) := by decide +kernel
theorem dX3_daysUntilBirthday_9 : decode cX3_daysUntilBirthday 9 = .ok (.getfield 176, 3) := by decide +kernel
theorem dX3_daysUntilBirthday_12 : decode cX3_daysUntilBirthday 12 = .ok (.iload_n 1, 1) := by decide +kernel
theorem dX3_daysUntilBirthday_13 : decode cX3_daysUntilBirthday 13 = .ok (.invokestatic 145, 3) := by decide +kernel
theorem dX3_daysUntilBirthday_16 : decode cX3_daysUntilBirthday 16 = .ok (.istore_n 2, 1) := by decide +kernel
theorem dX3_daysUntilBirthday_17 : decode cX3_daysUntilBirthday 17 = .ok (.iload_n 2, 1) := by decide +kernel
theorem dX3_daysUntilBirthday_18 : decode cX3_daysUntilBirthday 18 = .ok (.iconst (-1), 1) := by decide +kernel
theorem dX3_daysUntilBirthday_19 : decode cX3_daysUntilBirthday 19 = .ok (.if_icmp .ne 7, 3) := by decide +kernel
theorem dX3_daysUntilBirthday_22 : decode cX3_daysUntilBirthday 22 = .ok (.iconst (-1), 1) := by decide +kernel
theorem dX3_daysUntilBirthday_23 : decode cX3_daysUntilBirthday 23 = .ok (.goto 11, 3) := by decide +kernel
theorem dX3_daysUntilBirthday_26 : decode cX3_daysUntilBirthday 26 = .ok (.aload_n 0, 1) := by decide +kernel
theorem dX3_daysUntilBirthday_27 : decode cX3_daysUntilBirthday 27 = .ok (.getfield 20, 3) := by decide +kernel
theorem dX3_daysUntilBirthday_30 : decode cX3_daysUntilBirthday 30 = .ok (.iload_n 2, 1) := by decide +kernel
theorem dX3_daysUntilBirthday_31 : decode cX3_daysUntilBirthday 31 = .ok (.invokevirtual 191, 3) := by decide +kernel
theorem dX3_daysUntilBirthday_34 : decode cX3_daysUntilBirthday 34 = .ok (.ireturn, 1) := by decide +kernel
theorem dX3_partiesOf_0 : decode cX3_partiesOf 0 = .ok (.aload_n 0, 1) := by decide +kernel
theorem dX3_partiesOf_1 : decode cX3_partiesOf 1 = .ok (.iload_n 1, 1) := by decide +kernel
theorem dX3_partiesOf_2 : decode cX3_partiesOf 2 = .ok (.invokevirtual 179, 3) := by decide +kernel
theorem dX3_partiesOf_5 : decode cX3_partiesOf 5 = .ok (.aload_n 0, 1) := by decide +kernel
theorem dX3_partiesOf_6 : decode cX3_partiesOf 6 = .ok (.getfield 20, 3) := by decide +kernel
theorem dX3_partiesOf_9 : decode cX3_partiesOf 9 = .ok (.getfield 194, 3) := by decide +kernel
theorem dX3_partiesOf_12 : decode cX3_partiesOf 12 = .ok (.iload_n 1, 1) := by decide +kernel
theorem dX3_partiesOf_13 : decode cX3_partiesOf 13 = .ok (.invokestatic 145, 3) := by decide +kernel
theorem dX3_partiesOf_16 : decode cX3_partiesOf 16 = .ok (.ireturn, 1) := by decide +kernel
theorem dX3_wishesOf_0 : decode cX3_wishesOf 0 = .ok (.aload_n 0, 1) := by decide +kernel
theorem dX3_wishesOf_1 : decode cX3_wishesOf 1 = .ok (.iload_n 1, 1) := by decide +kernel
theorem dX3_wishesOf_2 : decode cX3_wishesOf 2 = .ok (.invokevirtual 179, 3) := by decide +kernel
theorem dX3_wishesOf_5 : decode cX3_wishesOf 5 = .ok (.aload_n 0, 1) := by decide +kernel
theorem dX3_wishesOf_6 : decode cX3_wishesOf 6 = .ok (.getfield 20, 3) := by decide +kernel
theorem dX3_wishesOf_9 : decode cX3_wishesOf 9 = .ok (.getfield 197, 3) := by decide +kernel
theorem dX3_wishesOf_12 : decode cX3_wishesOf 12 = .ok (.iload_n 1, 1) := by decide +kernel
theorem dX3_wishesOf_13 : decode cX3_wishesOf 13 = .ok (.invokestatic 145, 3) := by decide +kernel
theorem dX3_wishesOf_16 : decode cX3_wishesOf 16 = .ok (.ireturn, 1) := by decide +kernel
theorem dX3_strengthOf_0 : decode cX3_strengthOf 0 = .ok (.aload_n 0, 1) := by decide +kernel
theorem dX3_strengthOf_1 : decode cX3_strengthOf 1 = .ok (.iload_n 1, 1) := by decide +kernel
theorem dX3_strengthOf_2 : decode cX3_strengthOf 2 = .ok (.invokevirtual 179, 3) := by decide +kernel
theorem dX3_strengthOf_5 : decode cX3_strengthOf 5 = .ok (.aload_n 0, 1) := by decide +kernel
theorem dX3_strengthOf_6 : decode cX3_strengthOf 6 = .ok (.getfield 20, 3) := by decide +kernel
theorem dX3_strengthOf_9 : decode cX3_strengthOf 9 = .ok (.iload_n 1, 1) := by decide +kernel
theorem dX3_strengthOf_10 : decode cX3_strengthOf 10 = .ok (.aload_n 0, 1) := by decide +kernel
theorem dX3_strengthOf_11 : decode cX3_strengthOf 11 = .ok (.getfield 20, 3) := by decide +kernel
theorem dX3_strengthOf_14 : decode cX3_strengthOf 14 = .ok (.getfield 182, 3) := by decide +kernel
theorem dX3_strengthOf_17 : decode cX3_strengthOf 17 = .ok (.iload_n 1, 1) := by decide +kernel
theorem dX3_strengthOf_18 : decode cX3_strengthOf 18 = .ok (.invokestatic 145, 3) := by decide +kernel
theorem dX3_strengthOf_21 : decode cX3_strengthOf 21 = .ok (.invokevirtual 200, 3) := by decide +kernel
theorem dX3_strengthOf_24 : decode cX3_strengthOf 24 = .ok (.ireturn, 1) := by decide +kernel
theorem dX3_nextChild_0 : decode cX3_nextChild 0 = .ok (.iconst (-1), 1) := by decide +kernel
theorem dX3_nextChild_1 : decode cX3_nextChild 1 = .ok (.istore_n 1, 1) := by decide +kernel
theorem dX3_nextChild_2 : decode cX3_nextChild 2 = .ok (.sipush 361, 3) := by decide +kernel
theorem dX3_nextChild_5 : decode cX3_nextChild 5 = .ok (.istore_n 2, 1) := by decide +kernel
theorem dX3_nextChild_6 : decode cX3_nextChild 6 = .ok (.iconst 0, 1) := by decide +kernel
theorem dX3_nextChild_7 : decode cX3_nextChild 7 = .ok (.istore_n 3, 1) := by decide +kernel
theorem dX3_nextChild_8 : decode cX3_nextChild 8 = .ok (.iload_n 3, 1) := by decide +kernel
theorem dX3_nextChild_9 : decode cX3_nextChild 9 = .ok (.aload_n 0, 1) := by decide +kernel
theorem dX3_nextChild_10 : decode cX3_nextChild 10 = .ok (.getfield 20, 3) := by decide +kernel
theorem dX3_nextChild_13 : decode cX3_nextChild 13 = .ok (.getfield 113, 3) := by decide +kernel
theorem dX3_nextChild_16 : decode cX3_nextChild 16 = .ok (.if_icmp .ge 53, 3) := by decide +kernel
theorem dX3_nextChild_19 : decode cX3_nextChild 19 = .ok (.aload_n 0, 1) := by decide +kernel
theorem dX3_nextChild_20 : decode cX3_nextChild 20 = .ok (.getfield 20, 3) := by decide +kernel
theorem dX3_nextChild_23 : decode cX3_nextChild 23 = .ok (.getfield 176, 3) := by decide +kernel
theorem dX3_nextChild_26 : decode cX3_nextChild 26 = .ok (.iload_n 3, 1) := by decide +kernel
theorem dX3_nextChild_27 : decode cX3_nextChild 27 = .ok (.invokestatic 145, 3) := by decide +kernel
theorem dX3_nextChild_30 : decode cX3_nextChild 30 = .ok (.istore 4, 2) := by decide +kernel
theorem dX3_nextChild_32 : decode cX3_nextChild 32 = .ok (.iload 4, 2) := by decide +kernel
theorem dX3_nextChild_34 : decode cX3_nextChild 34 = .ok (.iconst (-1), 1) := by decide +kernel
theorem dX3_nextChild_35 : decode cX3_nextChild 35 = .ok (.if_icmp .eq 28, 3) := by decide +kernel
theorem dX3_nextChild_38 : decode cX3_nextChild 38 = .ok (.aload_n 0, 1) := by decide +kernel
theorem dX3_nextChild_39 : decode cX3_nextChild 39 = .ok (.getfield 20, 3) := by decide +kernel
theorem dX3_nextChild_42 : decode cX3_nextChild 42 = .ok (.iload 4, 2) := by decide +kernel
theorem dX3_nextChild_44 : decode cX3_nextChild 44 = .ok (.invokevirtual 191, 3) := by decide +kernel
theorem dX3_nextChild_47 : decode cX3_nextChild 47 = .ok (.iload_n 2, 1) := by decide +kernel
theorem dX3_nextChild_48 : decode cX3_nextChild 48 = .ok (.if_icmp .ge 15, 3) := by decide +kernel
theorem dX3_nextChild_51 : decode cX3_nextChild 51 = .ok (.iload_n 3, 1) := by decide +kernel
theorem dX3_nextChild_52 : decode cX3_nextChild 52 = .ok (.istore_n 1, 1) := by decide +kernel
theorem dX3_nextChild_53 : decode cX3_nextChild 53 = .ok (.aload_n 0, 1) := by decide +kernel
theorem dX3_nextChild_54 : decode cX3_nextChild 54 = .ok (.getfield 20, 3) := by decide +kernel
theorem dX3_nextChild_57 : decode cX3_nextChild 57 = .ok (.iload 4, 2) := by decide +kernel
theorem dX3_nextChild_59 : decode cX3_nextChild 59 = .ok (.invokevirtual 191, 3) := by decide +kernel
theorem dX3_nextChild_62 : decode cX3_nextChild 62 = .ok (.istore_n 2, 1) := by decide +kernel
theorem dX3_nextChild_63 : decode cX3_nextChild 63 = .ok (.iinc 3 1, 3) := by decide +kernel
theorem dX3_nextChild_66 : decode cX3_nextChild 66 = .ok (.goto (-58), 3) := by decide +kernel
theorem dX3_nextChild_69 : decode cX3_nextChild 69 = .ok (.iload_n 1, 1) := by decide +kernel
theorem dX3_nextChild_70 : decode cX3_nextChild 70 = .ok (.ireturn, 1) := by decide +kernel
theorem dX3_childrenOn_0 : decode cX3_childrenOn 0 = .ok (.iload_n 1, 1) := by decide +kernel
theorem dX3_childrenOn_1 : decode cX3_childrenOn 1 = .ok (.iload_n 2, 1) := by decide +kernel
theorem dX3_childrenOn_2 : decode cX3_childrenOn 2 = .ok (.invokestatic 168, 3) := by decide +kernel
theorem dX3_childrenOn_5 : decode cX3_childrenOn 5 = .ok (.iload_n 1, 1) := by decide +kernel
theorem dX3_childrenOn_6 : decode cX3_childrenOn 6 = .ok (.iload_n 2, 1) := by decide +kernel
theorem dX3_childrenOn_7 : decode cX3_childrenOn 7 = .ok (.invokestatic 172, 3) := by decide +kernel
theorem dX3_childrenOn_10 : decode cX3_childrenOn 10 = .ok (.aload_n 0, 1) := by decide +kernel
theorem dX3_childrenOn_11 : decode cX3_childrenOn 11 = .ok (.getfield 20, 3) := by decide +kernel
theorem dX3_childrenOn_14 : decode cX3_childrenOn 14 = .ok (.getfield 176, 3) := by decide +kernel
theorem dX3_childrenOn_17 : decode cX3_childrenOn 17 = .ok (.aload_n 0, 1) := by decide +kernel
theorem dX3_childrenOn_18 : decode cX3_childrenOn 18 = .ok (.getfield 20, 3) := by decide +kernel
theorem dX3_childrenOn_21 : decode cX3_childrenOn 21 = .ok (.getfield 113, 3) := by decide +kernel
theorem dX3_childrenOn_24 : decode cX3_childrenOn 24 = .ok (.invokestatic 164, 3) := by decide +kernel
theorem dX3_childrenOn_27 : decode cX3_childrenOn 27 = .ok (.ireturn, 1) := by decide +kernel
theorem dX3_differentDates_0 : decode cX3_differentDates 0 = .ok (.iconst 0, 1) := by decide +kernel
theorem dX3_differentDates_1 : decode cX3_differentDates 1 = .ok (.istore_n 1, 1) := by decide +kernel
theorem dX3_differentDates_2 : decode cX3_differentDates 2 = .ok (.iconst 0, 1) := by decide +kernel
theorem dX3_differentDates_3 : decode cX3_differentDates 3 = .ok (.istore_n 2, 1) := by decide +kernel
theorem dX3_differentDates_4 : decode cX3_differentDates 4 = .ok (.iload_n 2, 1) := by decide +kernel
theorem dX3_differentDates_5 : decode cX3_differentDates 5 = .ok (.aload_n 0, 1) := by decide +kernel
theorem dX3_differentDates_6 : decode cX3_differentDates 6 = .ok (.getfield 20, 3) := by decide +kernel
theorem dX3_differentDates_9 : decode cX3_differentDates 9 = .ok (.getfield 113, 3) := by decide +kernel
theorem dX3_differentDates_12 : decode cX3_differentDates 12 = .ok (.if_icmp .ge 20, 3) := by decide +kernel
theorem dX3_differentDates_15 : decode cX3_differentDates 15 = .ok (.aload_n 0, 1) := by decide +kernel
theorem dX3_differentDates_16 : decode cX3_differentDates 16 = .ok (.iload_n 2, 1) := by decide +kernel
theorem dX3_differentDates_17 : decode cX3_differentDates 17 = .ok (.invokevirtual 203, 3) := by decide +kernel
theorem dX3_differentDates_20 : decode cX3_differentDates 20 = .ok (.ifCond .eq 6, 3) := by decide +kernel
theorem dX3_differentDates_23 : decode cX3_differentDates 23 = .ok (.iinc 1 1, 3) := by decide +kernel
theorem dX3_differentDates_26 : decode cX3_differentDates 26 = .ok (.iinc 2 1, 3) := by decide +kernel
theorem dX3_differentDates_29 : decode cX3_differentDates 29 = .ok (.goto (-25), 3) := by decide +kernel
theorem dX3_differentDates_32 : decode cX3_differentDates 32 = .ok (.iload_n 1, 1) := by decide +kernel
theorem dX3_differentDates_33 : decode cX3_differentDates 33 = .ok (.ireturn, 1) := by decide +kernel
theorem dX3_dateAt_0 : decode cX3_dateAt 0 = .ok (.iconst 0, 1) := by decide +kernel
theorem dX3_dateAt_1 : decode cX3_dateAt 1 = .ok (.istore_n 2, 1) := by decide +kernel
theorem dX3_dateAt_2 : decode cX3_dateAt 2 = .ok (.iconst 0, 1) := by decide +kernel
theorem dX3_dateAt_3 : decode cX3_dateAt 3 = .ok (.istore_n 3, 1) := by decide +kernel
theorem dX3_dateAt_4 : decode cX3_dateAt 4 = .ok (.iload_n 3, 1) := by decide +kernel
theorem dX3_dateAt_5 : decode cX3_dateAt 5 = .ok (.aload_n 0, 1) := by decide +kernel
theorem dX3_dateAt_6 : decode cX3_dateAt 6 = .ok (.getfield 20, 3) := by decide +kernel
theorem dX3_dateAt_9 : decode cX3_dateAt 9 = .ok (.getfield 113, 3) := by decide +kernel
theorem dX3_dateAt_12 : decode cX3_dateAt 12 = .ok (.if_icmp .ge 37, 3) := by decide +kernel
theorem dX3_dateAt_15 : decode cX3_dateAt 15 = .ok (.aload_n 0, 1) := by decide +kernel
theorem dX3_dateAt_16 : decode cX3_dateAt 16 = .ok (.iload_n 3, 1) := by decide +kernel
theorem dX3_dateAt_17 : decode cX3_dateAt 17 = .ok (.invokevirtual 203, 3) := by decide +kernel
theorem dX3_dateAt_20 : decode cX3_dateAt 20 = .ok (.ifCond .eq 23, 3) := by decide +kernel
theorem dX3_dateAt_23 : decode cX3_dateAt 23 = .ok (.iload_n 2, 1) := by decide +kernel
theorem dX3_dateAt_24 : decode cX3_dateAt 24 = .ok (.iload_n 1, 1) := by decide +kernel
theorem dX3_dateAt_25 : decode cX3_dateAt 25 = .ok (.if_icmp .ne 15, 3) := by decide +kernel
theorem dX3_dateAt_28 : decode cX3_dateAt 28 = .ok (.aload_n 0, 1) := by decide +kernel
theorem dX3_dateAt_29 : decode cX3_dateAt 29 = .ok (.getfield 20, 3) := by decide +kernel
theorem dX3_dateAt_32 : decode cX3_dateAt 32 = .ok (.getfield 176, 3) := by decide +kernel
theorem dX3_dateAt_35 : decode cX3_dateAt 35 = .ok (.iload_n 3, 1) := by decide +kernel
theorem dX3_dateAt_36 : decode cX3_dateAt 36 = .ok (.invokestatic 145, 3) := by decide +kernel
theorem dX3_dateAt_39 : decode cX3_dateAt 39 = .ok (.ireturn, 1) := by decide +kernel
theorem dX3_dateAt_40 : decode cX3_dateAt 40 = .ok (.iinc 2 1, 3) := by decide +kernel
theorem dX3_dateAt_43 : decode cX3_dateAt 43 = .ok (.iinc 3 1, 3) := by decide +kernel
theorem dX3_dateAt_46 : decode cX3_dateAt 46 = .ok (.goto (-42), 3) := by decide +kernel
theorem dX3_dateAt_49 : decode cX3_dateAt 49 = .ok (.new 91, 3) := by decide +kernel
theorem dX3_dateAt_52 : decode cX3_dateAt 52 = .ok (.dup, 1) := by decide +kernel
theorem dX3_dateAt_53 : decode cX3_dateAt 53 = .ok (.ldc 207, 2) := by decide +kernel
theorem dX3_dateAt_55 : decode cX3_dateAt 55 = .ok (.invokespecial 95, 3) := by decide +kernel
theorem dX3_dateAt_58 : decode cX3_dateAt 58 = .ok (.athrow, 1) := by decide +kernel
theorem dX3_isFirstWithItsDate_0 : decode cX3_isFirstWithItsDate 0 = .ok (.aload_n 0, 1) := by decide +kernel
theorem dX3_isFirstWithItsDate_1 : decode cX3_isFirstWithItsDate 1 = .ok (.getfield 20, 3) := by decide +kernel
theorem dX3_isFirstWithItsDate_4 : decode cX3_isFirstWithItsDate 4 = .ok (.getfield 176, 3) := by decide +kernel
theorem dX3_isFirstWithItsDate_7 : decode cX3_isFirstWithItsDate 7 = .ok (.iload_n 1, 1) := by decide +kernel
theorem dX3_isFirstWithItsDate_8 : decode cX3_isFirstWithItsDate 8 = .ok (.invokestatic 145, 3) := by decide +kernel
theorem dX3_isFirstWithItsDate_11 : decode cX3_isFirstWithItsDate 11 = .ok (.istore_n 2, 1) := by decide +kernel
theorem dX3_isFirstWithItsDate_12 : decode cX3_isFirstWithItsDate 12 = .ok (.iconst 0, 1) := by decide +kernel
theorem dX3_isFirstWithItsDate_13 : decode cX3_isFirstWithItsDate 13 = .ok (.istore_n 3, 1) := by decide +kernel
theorem dX3_isFirstWithItsDate_14 : decode cX3_isFirstWithItsDate 14 = .ok (.iload_n 3, 1) := by decide +kernel
theorem dX3_isFirstWithItsDate_15 : decode cX3_isFirstWithItsDate 15 = .ok (.iload_n 1, 1) := by decide +kernel
theorem dX3_isFirstWithItsDate_16 : decode cX3_isFirstWithItsDate 16 = .ok (.if_icmp .ge 26, 3) := by decide +kernel
theorem dX3_isFirstWithItsDate_19 : decode cX3_isFirstWithItsDate 19 = .ok (.aload_n 0, 1) := by decide +kernel
theorem dX3_isFirstWithItsDate_20 : decode cX3_isFirstWithItsDate 20 = .ok (.getfield 20, 3) := by decide +kernel
theorem dX3_isFirstWithItsDate_23 : decode cX3_isFirstWithItsDate 23 = .ok (.getfield 176, 3) := by decide +kernel
theorem dX3_isFirstWithItsDate_26 : decode cX3_isFirstWithItsDate 26 = .ok (.iload_n 3, 1) := by decide +kernel
theorem dX3_isFirstWithItsDate_27 : decode cX3_isFirstWithItsDate 27 = .ok (.invokestatic 145, 3) := by decide +kernel
theorem dX3_isFirstWithItsDate_30 : decode cX3_isFirstWithItsDate 30 = .ok (.iload_n 2, 1) := by decide +kernel
theorem dX3_isFirstWithItsDate_31 : decode cX3_isFirstWithItsDate 31 = .ok (.if_icmp .ne 5, 3) := by decide +kernel
theorem dX3_isFirstWithItsDate_34 : decode cX3_isFirstWithItsDate 34 = .ok (.iconst 0, 1) := by decide +kernel
theorem dX3_isFirstWithItsDate_35 : decode cX3_isFirstWithItsDate 35 = .ok (.ireturn, 1) := by decide +kernel
theorem dX3_isFirstWithItsDate_36 : decode cX3_isFirstWithItsDate 36 = .ok (.iinc 3 1, 3) := by decide +kernel
theorem dX3_isFirstWithItsDate_39 : decode cX3_isFirstWithItsDate 39 = .ok (.goto (-25), 3) := by decide +kernel
theorem dX3_isFirstWithItsDate_42 : decode cX3_isFirstWithItsDate 42 = .ok (.iload_n 2, 1) := by decide +kernel
theorem dX3_isFirstWithItsDate_43 : decode cX3_isFirstWithItsDate 43 = .ok (.iconst (-1), 1) := by decide +kernel
theorem dX3_isFirstWithItsDate_44 : decode cX3_isFirstWithItsDate 44 = .ok (.if_icmp .eq 7, 3) := by decide +kernel
theorem dX3_isFirstWithItsDate_47 : decode cX3_isFirstWithItsDate 47 = .ok (.iconst 1, 1) := by decide +kernel
theorem dX3_isFirstWithItsDate_48 : decode cX3_isFirstWithItsDate 48 = .ok (.goto 4, 3) := by decide +kernel
theorem dX3_isFirstWithItsDate_51 : decode cX3_isFirstWithItsDate 51 = .ok (.iconst 0, 1) := by decide +kernel
theorem dX3_isFirstWithItsDate_52 : decode cX3_isFirstWithItsDate 52 = .ok (.ireturn, 1) := by decide +kernel
theorem dX3_busiestMonth_0 : decode cX3_busiestMonth 0 = .ok (.iconst (-1), 1) := by decide +kernel
theorem dX3_busiestMonth_1 : decode cX3_busiestMonth 1 = .ok (.istore_n 1, 1) := by decide +kernel
theorem dX3_busiestMonth_2 : decode cX3_busiestMonth 2 = .ok (.iconst 0, 1) := by decide +kernel
theorem dX3_busiestMonth_3 : decode cX3_busiestMonth 3 = .ok (.istore_n 2, 1) := by decide +kernel
theorem dX3_busiestMonth_4 : decode cX3_busiestMonth 4 = .ok (.iconst 1, 1) := by decide +kernel
theorem dX3_busiestMonth_5 : decode cX3_busiestMonth 5 = .ok (.istore_n 3, 1) := by decide +kernel
theorem dX3_busiestMonth_6 : decode cX3_busiestMonth 6 = .ok (.iload_n 3, 1) := by decide +kernel
theorem dX3_busiestMonth_7 : decode cX3_busiestMonth 7 = .ok (.bipush 12, 2) := by decide +kernel
theorem dX3_busiestMonth_9 : decode cX3_busiestMonth 9 = .ok (.if_icmp .gt 27, 3) := by decide +kernel
theorem dX3_busiestMonth_12 : decode cX3_busiestMonth 12 = .ok (.aload_n 0, 1) := by decide +kernel
theorem dX3_busiestMonth_13 : decode cX3_busiestMonth 13 = .ok (.iload_n 3, 1) := by decide +kernel
theorem dX3_busiestMonth_14 : decode cX3_busiestMonth 14 = .ok (.invokevirtual 209, 3) := by decide +kernel
theorem dX3_busiestMonth_17 : decode cX3_busiestMonth 17 = .ok (.istore 4, 2) := by decide +kernel
theorem dX3_busiestMonth_19 : decode cX3_busiestMonth 19 = .ok (.iload 4, 2) := by decide +kernel
theorem dX3_busiestMonth_21 : decode cX3_busiestMonth 21 = .ok (.iload_n 2, 1) := by decide +kernel
theorem dX3_busiestMonth_22 : decode cX3_busiestMonth 22 = .ok (.if_icmp .le 8, 3) := by decide +kernel
theorem dX3_busiestMonth_25 : decode cX3_busiestMonth 25 = .ok (.iload_n 3, 1) := by decide +kernel
theorem dX3_busiestMonth_26 : decode cX3_busiestMonth 26 = .ok (.istore_n 1, 1) := by decide +kernel
theorem dX3_busiestMonth_27 : decode cX3_busiestMonth 27 = .ok (.iload 4, 2) := by decide +kernel
theorem dX3_busiestMonth_29 : decode cX3_busiestMonth 29 = .ok (.istore_n 2, 1) := by decide +kernel
theorem dX3_busiestMonth_30 : decode cX3_busiestMonth 30 = .ok (.iinc 3 1, 3) := by decide +kernel
theorem dX3_busiestMonth_33 : decode cX3_busiestMonth 33 = .ok (.goto (-27), 3) := by decide +kernel
theorem dX3_busiestMonth_36 : decode cX3_busiestMonth 36 = .ok (.iload_n 1, 1) := by decide +kernel
theorem dX3_busiestMonth_37 : decode cX3_busiestMonth 37 = .ok (.ireturn, 1) := by decide +kernel
theorem dX3_countBirthdaysIn_0 : decode cX3_countBirthdaysIn 0 = .ok (.iconst 0, 1) := by decide +kernel
theorem dX3_countBirthdaysIn_1 : decode cX3_countBirthdaysIn 1 = .ok (.istore_n 2, 1) := by decide +kernel
theorem dX3_countBirthdaysIn_2 : decode cX3_countBirthdaysIn 2 = .ok (.iconst 0, 1) := by decide +kernel
theorem dX3_countBirthdaysIn_3 : decode cX3_countBirthdaysIn 3 = .ok (.istore_n 3, 1) := by decide +kernel
theorem dX3_countBirthdaysIn_4 : decode cX3_countBirthdaysIn 4 = .ok (.iload_n 3, 1) := by decide +kernel
theorem dX3_countBirthdaysIn_5 : decode cX3_countBirthdaysIn 5 = .ok (.aload_n 0, 1) := by decide +kernel
theorem dX3_countBirthdaysIn_6 : decode cX3_countBirthdaysIn 6 = .ok (.getfield 20, 3) := by decide +kernel
theorem dX3_countBirthdaysIn_9 : decode cX3_countBirthdaysIn 9 = .ok (.getfield 113, 3) := by decide +kernel
theorem dX3_countBirthdaysIn_12 : decode cX3_countBirthdaysIn 12 = .ok (.if_icmp .ge 40, 3) := by decide +kernel
theorem dX3_countBirthdaysIn_15 : decode cX3_countBirthdaysIn 15 = .ok (.aload_n 0, 1) := by decide +kernel
theorem dX3_countBirthdaysIn_16 : decode cX3_countBirthdaysIn 16 = .ok (.getfield 20, 3) := by decide +kernel
theorem dX3_countBirthdaysIn_19 : decode cX3_countBirthdaysIn 19 = .ok (.getfield 176, 3) := by decide +kernel
theorem dX3_countBirthdaysIn_22 : decode cX3_countBirthdaysIn 22 = .ok (.iload_n 3, 1) := by decide +kernel
theorem dX3_countBirthdaysIn_23 : decode cX3_countBirthdaysIn 23 = .ok (.invokestatic 145, 3) := by decide +kernel
theorem dX3_countBirthdaysIn_26 : decode cX3_countBirthdaysIn 26 = .ok (.istore 4, 2) := by decide +kernel
theorem dX3_countBirthdaysIn_28 : decode cX3_countBirthdaysIn 28 = .ok (.iload 4, 2) := by decide +kernel
theorem dX3_countBirthdaysIn_30 : decode cX3_countBirthdaysIn 30 = .ok (.iconst (-1), 1) := by decide +kernel
theorem dX3_countBirthdaysIn_31 : decode cX3_countBirthdaysIn 31 = .ok (.if_icmp .eq 15, 3) := by decide +kernel
theorem dX3_countBirthdaysIn_34 : decode cX3_countBirthdaysIn 34 = .ok (.iload 4, 2) := by decide +kernel
theorem dX3_countBirthdaysIn_36 : decode cX3_countBirthdaysIn 36 = .ok (.invokestatic 122, 3) := by decide +kernel
theorem dX3_countBirthdaysIn_39 : decode cX3_countBirthdaysIn 39 = .ok (.iload_n 1, 1) := by decide +kernel
theorem dX3_countBirthdaysIn_40 : decode cX3_countBirthdaysIn 40 = .ok (.if_icmp .ne 6, 3) := by decide +kernel
theorem dX3_countBirthdaysIn_43 : decode cX3_countBirthdaysIn 43 = .ok (.iinc 2 1, 3) := by decide +kernel
theorem dX3_countBirthdaysIn_46 : decode cX3_countBirthdaysIn 46 = .ok (.iinc 3 1, 3) := by decide +kernel
theorem dX3_countBirthdaysIn_49 : decode cX3_countBirthdaysIn 49 = .ok (.goto (-45), 3) := by decide +kernel
theorem dX3_countBirthdaysIn_52 : decode cX3_countBirthdaysIn 52 = .ok (.iload_n 2, 1) := by decide +kernel
theorem dX3_countBirthdaysIn_53 : decode cX3_countBirthdaysIn 53 = .ok (.ireturn, 1) := by decide +kernel
theorem dX3_obstacle_0 : decode cX3_obstacle 0 = .ok (.aload_n 0, 1) := by decide +kernel
theorem dX3_obstacle_1 : decode cX3_obstacle 1 = .ok (.iload_n 1, 1) := by decide +kernel
theorem dX3_obstacle_2 : decode cX3_obstacle 2 = .ok (.invokevirtual 179, 3) := by decide +kernel
theorem dX3_obstacle_5 : decode cX3_obstacle 5 = .ok (.aload_n 0, 1) := by decide +kernel
theorem dX3_obstacle_6 : decode cX3_obstacle 6 = .ok (.iload_n 2, 1) := by decide +kernel
theorem dX3_obstacle_7 : decode cX3_obstacle 7 = .ok (.invokevirtual 155, 3) := by decide +kernel
theorem dX3_obstacle_10 : decode cX3_obstacle 10 = .ok (.iload_n 3, 1) := by decide +kernel
theorem dX3_obstacle_11 : decode cX3_obstacle 11 = .ok (.iload 4, 2) := by decide +kernel
theorem dX3_obstacle_13 : decode cX3_obstacle 13 = .ok (.invokestatic 168, 3) := by decide +kernel
theorem dX3_obstacle_16 : decode cX3_obstacle 16 = .ok (.aload_n 0, 1) := by decide +kernel
theorem dX3_obstacle_17 : decode cX3_obstacle 17 = .ok (.getfield 20, 3) := by decide +kernel
theorem dX3_obstacle_20 : decode cX3_obstacle 20 = .ok (.iload_n 1, 1) := by decide +kernel
theorem dX3_obstacle_21 : decode cX3_obstacle 21 = .ok (.iload_n 2, 1) := by decide +kernel
theorem dX3_obstacle_22 : decode cX3_obstacle 22 = .ok (.iload_n 3, 1) := by decide +kernel
theorem dX3_obstacle_23 : decode cX3_obstacle 23 = .ok (.iload 4, 2) := by decide +kernel
theorem dX3_obstacle_25 : decode cX3_obstacle 25 = .ok (.invokestatic 172, 3) := by decide +kernel
theorem dX3_obstacle_28 : decode cX3_obstacle 28 = .ok (.invokevirtual 212, 3) := by decide +kernel
theorem dX3_obstacle_31 : decode cX3_obstacle 31 = .ok (.ireturn, 1) := by decide +kernel
theorem dX3_freeGarden_0 : decode cX3_freeGarden 0 = .ok (.aload_n 0, 1) := by decide +kernel
theorem dX3_freeGarden_1 : decode cX3_freeGarden 1 = .ok (.iload_n 1, 1) := by decide +kernel
theorem dX3_freeGarden_2 : decode cX3_freeGarden 2 = .ok (.invokevirtual 179, 3) := by decide +kernel
theorem dX3_freeGarden_5 : decode cX3_freeGarden 5 = .ok (.iload_n 2, 1) := by decide +kernel
theorem dX3_freeGarden_6 : decode cX3_freeGarden 6 = .ok (.iload_n 3, 1) := by decide +kernel
theorem dX3_freeGarden_7 : decode cX3_freeGarden 7 = .ok (.invokestatic 168, 3) := by decide +kernel
theorem dX3_freeGarden_10 : decode cX3_freeGarden 10 = .ok (.iload_n 2, 1) := by decide +kernel
theorem dX3_freeGarden_11 : decode cX3_freeGarden 11 = .ok (.iload_n 3, 1) := by decide +kernel
theorem dX3_freeGarden_12 : decode cX3_freeGarden 12 = .ok (.invokestatic 172, 3) := by decide +kernel
theorem dX3_freeGarden_15 : decode cX3_freeGarden 15 = .ok (.istore 4, 2) := by decide +kernel
theorem dX3_freeGarden_17 : decode cX3_freeGarden 17 = .ok (.iconst 0, 1) := by decide +kernel
theorem dX3_freeGarden_18 : decode cX3_freeGarden 18 = .ok (.istore 5, 2) := by decide +kernel
theorem dX3_freeGarden_20 : decode cX3_freeGarden 20 = .ok (.iload 5, 2) := by decide +kernel
theorem dX3_freeGarden_22 : decode cX3_freeGarden 22 = .ok (.aload_n 0, 1) := by decide +kernel
theorem dX3_freeGarden_23 : decode cX3_freeGarden 23 = .ok (.getfield 20, 3) := by decide +kernel
theorem dX3_freeGarden_26 : decode cX3_freeGarden 26 = .ok (.getfield 152, 3) := by decide +kernel
theorem dX3_freeGarden_29 : decode cX3_freeGarden 29 = .ok (.if_icmp .ge 27, 3) := by decide +kernel
theorem dX3_freeGarden_32 : decode cX3_freeGarden 32 = .ok (.aload_n 0, 1) := by decide +kernel
theorem dX3_freeGarden_33 : decode cX3_freeGarden 33 = .ok (.getfield 20, 3) := by decide +kernel
theorem dX3_freeGarden_36 : decode cX3_freeGarden 36 = .ok (.iload_n 1, 1) := by decide +kernel
theorem dX3_freeGarden_37 : decode cX3_freeGarden 37 = .ok (.iload 5, 2) := by decide +kernel
theorem dX3_freeGarden_39 : decode cX3_freeGarden 39 = .ok (.iload 4, 2) := by decide +kernel
theorem dX3_freeGarden_41 : decode cX3_freeGarden 41 = .ok (.invokevirtual 212, 3) := by decide +kernel
theorem dX3_freeGarden_44 : decode cX3_freeGarden 44 = .ok (.ifCond .ne 6, 3) := by decide +kernel
theorem dX3_freeGarden_47 : decode cX3_freeGarden 47 = .ok (.iload 5, 2) := by decide +kernel
theorem dX3_freeGarden_49 : decode cX3_freeGarden 49 = .ok (.ireturn, 1) := by decide +kernel
theorem dX3_freeGarden_50 : decode cX3_freeGarden 50 = .ok (.iinc 5 1, 3) := by decide +kernel
theorem dX3_freeGarden_53 : decode cX3_freeGarden 53 = .ok (.goto (-33), 3) := by decide +kernel
theorem dX3_freeGarden_56 : decode cX3_freeGarden 56 = .ok (.iconst (-1), 1) := by decide +kernel
theorem dX3_freeGarden_57 : decode cX3_freeGarden 57 = .ok (.ireturn, 1) := by decide +kernel
theorem dX3_drawsNeeded_0 : decode cX3_drawsNeeded 0 = .ok (.aload_n 0, 1) := by decide +kernel
theorem dX3_drawsNeeded_1 : decode cX3_drawsNeeded 1 = .ok (.iload_n 1, 1) := by decide +kernel
theorem dX3_drawsNeeded_2 : decode cX3_drawsNeeded 2 = .ok (.invokevirtual 179, 3) := by decide +kernel
theorem dX3_drawsNeeded_5 : decode cX3_drawsNeeded 5 = .ok (.aload_n 0, 1) := by decide +kernel
theorem dX3_drawsNeeded_6 : decode cX3_drawsNeeded 6 = .ok (.getfield 20, 3) := by decide +kernel
theorem dX3_drawsNeeded_9 : decode cX3_drawsNeeded 9 = .ok (.iload_n 1, 1) := by decide +kernel
theorem dX3_drawsNeeded_10 : decode cX3_drawsNeeded 10 = .ok (.invokevirtual 216, 3) := by decide +kernel
theorem dX3_drawsNeeded_13 : decode cX3_drawsNeeded 13 = .ok (.ireturn, 1) := by decide +kernel
theorem dX3_candlesAfter_0 : decode cX3_candlesAfter 0 = .ok (.iload_n 1, 1) := by decide +kernel
theorem dX3_candlesAfter_1 : decode cX3_candlesAfter 1 = .ok (.invokestatic 219, 3) := by decide +kernel
theorem dX3_candlesAfter_4 : decode cX3_candlesAfter 4 = .ok (.aload_n 0, 1) := by decide +kernel
theorem dX3_candlesAfter_5 : decode cX3_candlesAfter 5 = .ok (.iload_n 1, 1) := by decide +kernel
theorem dX3_candlesAfter_6 : decode cX3_candlesAfter 6 = .ok (.invokevirtual 222, 3) := by decide +kernel
theorem dX3_candlesAfter_9 : decode cX3_candlesAfter 9 = .ok (.aload_n 0, 1) := by decide +kernel
theorem dX3_candlesAfter_10 : decode cX3_candlesAfter 10 = .ok (.getfield 24, 3) := by decide +kernel
theorem dX3_candlesAfter_13 : decode cX3_candlesAfter 13 = .ok (.getfield 135, 3) := by decide +kernel
theorem dX3_candlesAfter_16 : decode cX3_candlesAfter 16 = .ok (.ireturn, 1) := by decide +kernel
theorem dX3_wishesAfter_0 : decode cX3_wishesAfter 0 = .ok (.aload_n 0, 1) := by decide +kernel
theorem dX3_wishesAfter_1 : decode cX3_wishesAfter 1 = .ok (.iload_n 1, 1) := by decide +kernel
theorem dX3_wishesAfter_2 : decode cX3_wishesAfter 2 = .ok (.invokevirtual 179, 3) := by decide +kernel
theorem dX3_wishesAfter_5 : decode cX3_wishesAfter 5 = .ok (.iload_n 2, 1) := by decide +kernel
theorem dX3_wishesAfter_6 : decode cX3_wishesAfter 6 = .ok (.invokestatic 219, 3) := by decide +kernel
theorem dX3_wishesAfter_9 : decode cX3_wishesAfter 9 = .ok (.aload_n 0, 1) := by decide +kernel
theorem dX3_wishesAfter_10 : decode cX3_wishesAfter 10 = .ok (.iload_n 2, 1) := by decide +kernel
theorem dX3_wishesAfter_11 : decode cX3_wishesAfter 11 = .ok (.invokevirtual 222, 3) := by decide +kernel
theorem dX3_wishesAfter_14 : decode cX3_wishesAfter 14 = .ok (.aload_n 0, 1) := by decide +kernel
theorem dX3_wishesAfter_15 : decode cX3_wishesAfter 15 = .ok (.getfield 24, 3) := by decide +kernel
theorem dX3_wishesAfter_18 : decode cX3_wishesAfter 18 = .ok (.getfield 197, 3) := by decide +kernel
theorem dX3_wishesAfter_21 : decode cX3_wishesAfter 21 = .ok (.iload_n 1, 1) := by decide +kernel
theorem dX3_wishesAfter_22 : decode cX3_wishesAfter 22 = .ok (.invokestatic 145, 3) := by decide +kernel
theorem dX3_wishesAfter_25 : decode cX3_wishesAfter 25 = .ok (.ireturn, 1) := by decide +kernel
theorem dX3_forecastDays_0 : decode cX3_forecastDays 0 = .ok (.aload_n 0, 1) := by decide +kernel
theorem dX3_forecastDays_1 : decode cX3_forecastDays 1 = .ok (.getfield 24, 3) := by decide +kernel
theorem dX3_forecastDays_4 : decode cX3_forecastDays 4 = .ok (.aload_n 0, 1) := by decide +kernel
theorem dX3_forecastDays_5 : decode cX3_forecastDays 5 = .ok (.getfield 20, 3) := by decide +kernel
theorem dX3_forecastDays_8 : decode cX3_forecastDays 8 = .ok (.invokevirtual 77, 3) := by decide +kernel
theorem dX3_forecastDays_11 : decode cX3_forecastDays 11 = .ok (.aload_n 0, 1) := by decide +kernel
theorem dX3_forecastDays_12 : decode cX3_forecastDays 12 = .ok (.getfield 24, 3) := by decide +kernel
theorem dX3_forecastDays_15 : decode cX3_forecastDays 15 = .ok (.iload_n 1, 1) := by decide +kernel
theorem dX3_forecastDays_16 : decode cX3_forecastDays 16 = .ok (.invokevirtual 225, 3) := by decide +kernel
theorem dX3_forecastDays_19 : decode cX3_forecastDays 19 = .ok (.pop, 1) := by decide +kernel
theorem dX3_forecastDays_20 : decode cX3_forecastDays 20 = .ok (.return_, 1) := by decide +kernel
theorem dX3_heldParties_0 : decode cX3_heldParties 0 = .ok (.aload_n 0, 1) := by decide +kernel
theorem dX3_heldParties_1 : decode cX3_heldParties 1 = .ok (.getfield 20, 3) := by decide +kernel
theorem dX3_heldParties_4 : decode cX3_heldParties 4 = .ok (.getfield 194, 3) := by decide +kernel
theorem dX3_heldParties_7 : decode cX3_heldParties 7 = .ok (.aload_n 0, 1) := by decide +kernel
theorem dX3_heldParties_8 : decode cX3_heldParties 8 = .ok (.getfield 20, 3) := by decide +kernel
theorem dX3_heldParties_11 : decode cX3_heldParties 11 = .ok (.getfield 113, 3) := by decide +kernel
theorem dX3_heldParties_14 : decode cX3_heldParties 14 = .ok (.invokestatic 228, 3) := by decide +kernel
theorem dX3_heldParties_17 : decode cX3_heldParties 17 = .ok (.ireturn, 1) := by decide +kernel
theorem dX3_failedParties_0 : decode cX3_failedParties 0 = .ok (.aload_n 0, 1) := by decide +kernel
theorem dX3_failedParties_1 : decode cX3_failedParties 1 = .ok (.getfield 20, 3) := by decide +kernel
theorem dX3_failedParties_4 : decode cX3_failedParties 4 = .ok (.getfield 231, 3) := by decide +kernel
theorem dX3_failedParties_7 : decode cX3_failedParties 7 = .ok (.ireturn, 1) := by decide +kernel
theorem dX3_clashes_0 : decode cX3_clashes 0 = .ok (.iconst 0, 1) := by decide +kernel
theorem dX3_clashes_1 : decode cX3_clashes 1 = .ok (.istore_n 1, 1) := by decide +kernel
theorem dX3_clashes_2 : decode cX3_clashes 2 = .ok (.iconst 0, 1) := by decide +kernel
theorem dX3_clashes_3 : decode cX3_clashes 3 = .ok (.istore_n 2, 1) := by decide +kernel
theorem dX3_clashes_4 : decode cX3_clashes 4 = .ok (.iload_n 2, 1) := by decide +kernel
theorem dX3_clashes_5 : decode cX3_clashes 5 = .ok (.aload_n 0, 1) := by decide +kernel
theorem dX3_clashes_6 : decode cX3_clashes 6 = .ok (.getfield 20, 3) := by decide +kernel
theorem dX3_clashes_9 : decode cX3_clashes 9 = .ok (.getfield 113, 3) := by decide +kernel
theorem dX3_clashes_12 : decode cX3_clashes 12 = .ok (.if_icmp .ge 34, 3) := by decide +kernel
theorem dX3_clashes_15 : decode cX3_clashes 15 = .ok (.iconst 0, 1) := by decide +kernel
theorem dX3_clashes_16 : decode cX3_clashes 16 = .ok (.istore_n 3, 1) := by decide +kernel
theorem dX3_clashes_17 : decode cX3_clashes 17 = .ok (.iload_n 3, 1) := by decide +kernel
theorem dX3_clashes_18 : decode cX3_clashes 18 = .ok (.iload_n 2, 1) := by decide +kernel
theorem dX3_clashes_19 : decode cX3_clashes 19 = .ok (.if_icmp .ge 21, 3) := by decide +kernel
theorem dX3_clashes_22 : decode cX3_clashes 22 = .ok (.aload_n 0, 1) := by decide +kernel
theorem dX3_clashes_23 : decode cX3_clashes 23 = .ok (.iload_n 2, 1) := by decide +kernel
theorem dX3_clashes_24 : decode cX3_clashes 24 = .ok (.iload_n 3, 1) := by decide +kernel
theorem dX3_clashes_25 : decode cX3_clashes 25 = .ok (.invokevirtual 234, 3) := by decide +kernel
theorem dX3_clashes_28 : decode cX3_clashes 28 = .ok (.ifCond .eq 6, 3) := by decide +kernel
theorem dX3_clashes_31 : decode cX3_clashes 31 = .ok (.iinc 1 1, 3) := by decide +kernel
theorem dX3_clashes_34 : decode cX3_clashes 34 = .ok (.iinc 3 1, 3) := by decide +kernel
theorem dX3_clashes_37 : decode cX3_clashes 37 = .ok (.goto (-20), 3) := by decide +kernel
theorem dX3_clashes_40 : decode cX3_clashes 40 = .ok (.iinc 2 1, 3) := by decide +kernel
theorem dX3_clashes_43 : decode cX3_clashes 43 = .ok (.goto (-39), 3) := by decide +kernel
theorem dX3_clashes_46 : decode cX3_clashes 46 = .ok (.iload_n 1, 1) := by decide +kernel
theorem dX3_clashes_47 : decode cX3_clashes 47 = .ok (.ireturn, 1) := by decide +kernel
theorem dX3_clash_0 : decode cX3_clash 0 = .ok (.aload_n 0, 1) := by decide +kernel
theorem dX3_clash_1 : decode cX3_clash 1 = .ok (.getfield 20, 3) := by decide +kernel
theorem dX3_clash_4 : decode cX3_clash 4 = .ok (.getfield 176, 3) := by decide +kernel
theorem dX3_clash_7 : decode cX3_clash 7 = .ok (.iload_n 1, 1) := by decide +kernel
theorem dX3_clash_8 : decode cX3_clash 8 = .ok (.invokestatic 145, 3) := by decide +kernel
theorem dX3_clash_11 : decode cX3_clash 11 = .ok (.istore_n 3, 1) := by decide +kernel
theorem dX3_clash_12 : decode cX3_clash 12 = .ok (.iload_n 3, 1) := by decide +kernel
theorem dX3_clash_13 : decode cX3_clash 13 = .ok (.iconst (-1), 1) := by decide +kernel
theorem dX3_clash_14 : decode cX3_clash 14 = .ok (.if_icmp .eq 47, 3) := by decide +kernel
theorem dX3_clash_17 : decode cX3_clash 17 = .ok (.iload_n 3, 1) := by decide +kernel
theorem dX3_clash_18 : decode cX3_clash 18 = .ok (.aload_n 0, 1) := by decide +kernel
theorem dX3_clash_19 : decode cX3_clash 19 = .ok (.getfield 20, 3) := by decide +kernel
theorem dX3_clash_22 : decode cX3_clash 22 = .ok (.getfield 176, 3) := by decide +kernel
theorem dX3_clash_25 : decode cX3_clash 25 = .ok (.iload_n 2, 1) := by decide +kernel
theorem dX3_clash_26 : decode cX3_clash 26 = .ok (.invokestatic 145, 3) := by decide +kernel
theorem dX3_clash_29 : decode cX3_clash 29 = .ok (.if_icmp .ne 32, 3) := by decide +kernel
theorem dX3_clash_32 : decode cX3_clash 32 = .ok (.aload_n 0, 1) := by decide +kernel
theorem dX3_clash_33 : decode cX3_clash 33 = .ok (.getfield 20, 3) := by decide +kernel
theorem dX3_clash_36 : decode cX3_clash 36 = .ok (.getfield 161, 3) := by decide +kernel
theorem dX3_clash_39 : decode cX3_clash 39 = .ok (.iload_n 1, 1) := by decide +kernel
theorem dX3_clash_40 : decode cX3_clash 40 = .ok (.invokestatic 145, 3) := by decide +kernel
theorem dX3_clash_43 : decode cX3_clash 43 = .ok (.aload_n 0, 1) := by decide +kernel
theorem dX3_clash_44 : decode cX3_clash 44 = .ok (.getfield 20, 3) := by decide +kernel
theorem dX3_clash_47 : decode cX3_clash 47 = .ok (.getfield 161, 3) := by decide +kernel
theorem dX3_clash_50 : decode cX3_clash 50 = .ok (.iload_n 2, 1) := by decide +kernel
theorem dX3_clash_51 : decode cX3_clash 51 = .ok (.invokestatic 145, 3) := by decide +kernel
theorem dX3_clash_54 : decode cX3_clash 54 = .ok (.if_icmp .ne 7, 3) := by decide +kernel
theorem dX3_clash_57 : decode cX3_clash 57 = .ok (.iconst 1, 1) := by decide +kernel
theorem dX3_clash_58 : decode cX3_clash 58 = .ok (.goto 4, 3) := by decide +kernel
theorem dX3_clash_61 : decode cX3_clash 61 = .ok (.iconst 0, 1) := by decide +kernel
theorem dX3_clash_62 : decode cX3_clash 62 = .ok (.ireturn, 1) := by decide +kernel
theorem dX3_candleDifference_0 : decode cX3_candleDifference 0 = .ok (.aload_n 0, 1) := by decide +kernel
theorem dX3_candleDifference_1 : decode cX3_candleDifference 1 = .ok (.getfield 20, 3) := by decide +kernel
theorem dX3_candleDifference_4 : decode cX3_candleDifference 4 = .ok (.getfield 135, 3) := by decide +kernel
theorem dX3_candleDifference_7 : decode cX3_candleDifference 7 = .ok (.aload_n 0, 1) := by decide +kernel
theorem dX3_candleDifference_8 : decode cX3_candleDifference 8 = .ok (.getfield 20, 3) := by decide +kernel
theorem dX3_candleDifference_11 : decode cX3_candleDifference 11 = .ok (.getfield 238, 3) := by decide +kernel
theorem dX3_candleDifference_14 : decode cX3_candleDifference 14 = .ok (.isub, 1) := by decide +kernel
theorem dX3_candleDifference_15 : decode cX3_candleDifference 15 = .ok (.aload_n 0, 1) := by decide +kernel
theorem dX3_candleDifference_16 : decode cX3_candleDifference 16 = .ok (.getfield 20, 3) := by decide +kernel
theorem dX3_candleDifference_19 : decode cX3_candleDifference 19 = .ok (.getfield 241, 3) := by decide +kernel
theorem dX3_candleDifference_22 : decode cX3_candleDifference 22 = .ok (.isub, 1) := by decide +kernel
theorem dX3_candleDifference_23 : decode cX3_candleDifference 23 = .ok (.aload_n 0, 1) := by decide +kernel
theorem dX3_candleDifference_24 : decode cX3_candleDifference 24 = .ok (.getfield 20, 3) := by decide +kernel
theorem dX3_candleDifference_27 : decode cX3_candleDifference 27 = .ok (.getfield 244, 3) := by decide +kernel
theorem dX3_candleDifference_30 : decode cX3_candleDifference 30 = .ok (.iadd, 1) := by decide +kernel
theorem dX3_candleDifference_31 : decode cX3_candleDifference 31 = .ok (.istore_n 1, 1) := by decide +kernel
theorem dX3_candleDifference_32 : decode cX3_candleDifference 32 = .ok (.iload_n 1, 1) := by decide +kernel
theorem dX3_candleDifference_33 : decode cX3_candleDifference 33 = .ok (.ifCond .ge 8, 3) := by decide +kernel
theorem dX3_candleDifference_36 : decode cX3_candleDifference 36 = .ok (.iload_n 1, 1) := by decide +kernel
theorem dX3_candleDifference_37 : decode cX3_candleDifference 37 = .ok (.ineg, 1) := by decide +kernel
theorem dX3_candleDifference_38 : decode cX3_candleDifference 38 = .ok (.goto 4, 3) := by decide +kernel
theorem dX3_candleDifference_41 : decode cX3_candleDifference 41 = .ok (.iload_n 1, 1) := by decide +kernel
theorem dX3_candleDifference_42 : decode cX3_candleDifference 42 = .ok (.ireturn, 1) := by decide +kernel
theorem dX3_meanAge_0 : decode cX3_meanAge 0 = .ok (.aload_n 0, 1) := by decide +kernel
theorem dX3_meanAge_1 : decode cX3_meanAge 1 = .ok (.getfield 20, 3) := by decide +kernel
theorem dX3_meanAge_4 : decode cX3_meanAge 4 = .ok (.getfield 113, 3) := by decide +kernel
theorem dX3_meanAge_7 : decode cX3_meanAge 7 = .ok (.ifCond .ne 5, 3) := by decide +kernel
theorem dX3_meanAge_10 : decode cX3_meanAge 10 = .ok (.dconst 0, 1) := by decide +kernel
theorem dX3_meanAge_11 : decode cX3_meanAge 11 = .ok (.dreturn, 1) := by decide +kernel
theorem dX3_meanAge_12 : decode cX3_meanAge 12 = .ok (.aload_n 0, 1) := by decide +kernel
theorem dX3_meanAge_13 : decode cX3_meanAge 13 = .ok (.getfield 20, 3) := by decide +kernel
theorem dX3_meanAge_16 : decode cX3_meanAge 16 = .ok (.getfield 188, 3) := by decide +kernel
theorem dX3_meanAge_19 : decode cX3_meanAge 19 = .ok (.aload_n 0, 1) := by decide +kernel
theorem dX3_meanAge_20 : decode cX3_meanAge 20 = .ok (.getfield 20, 3) := by decide +kernel
theorem dX3_meanAge_23 : decode cX3_meanAge 23 = .ok (.getfield 113, 3) := by decide +kernel
theorem dX3_meanAge_26 : decode cX3_meanAge 26 = .ok (.invokestatic 228, 3) := by decide +kernel
theorem dX3_meanAge_29 : decode cX3_meanAge 29 = .ok (.i2d, 1) := by decide +kernel
theorem dX3_meanAge_30 : decode cX3_meanAge 30 = .ok (.aload_n 0, 1) := by decide +kernel
theorem dX3_meanAge_31 : decode cX3_meanAge 31 = .ok (.getfield 20, 3) := by decide +kernel
theorem dX3_meanAge_34 : decode cX3_meanAge 34 = .ok (.getfield 113, 3) := by decide +kernel
theorem dX3_meanAge_37 : decode cX3_meanAge 37 = .ok (.i2d, 1) := by decide +kernel
theorem dX3_meanAge_38 : decode cX3_meanAge 38 = .ok (.ddiv, 1) := by decide +kernel
theorem dX3_meanAge_39 : decode cX3_meanAge 39 = .ok (.dreturn, 1) := by decide +kernel
theorem dX3_wishShare_0 : decode cX3_wishShare 0 = .ok (.aload_n 0, 1) := by decide +kernel
theorem dX3_wishShare_1 : decode cX3_wishShare 1 = .ok (.getfield 20, 3) := by decide +kernel
theorem dX3_wishShare_4 : decode cX3_wishShare 4 = .ok (.getfield 194, 3) := by decide +kernel
theorem dX3_wishShare_7 : decode cX3_wishShare 7 = .ok (.aload_n 0, 1) := by decide +kernel
theorem dX3_wishShare_8 : decode cX3_wishShare 8 = .ok (.getfield 20, 3) := by decide +kernel
theorem dX3_wishShare_11 : decode cX3_wishShare 11 = .ok (.getfield 113, 3) := by decide +kernel
theorem dX3_wishShare_14 : decode cX3_wishShare 14 = .ok (.invokestatic 228, 3) := by decide +kernel
theorem dX3_wishShare_17 : decode cX3_wishShare 17 = .ok (.istore_n 1, 1) := by decide +kernel
theorem dX3_wishShare_18 : decode cX3_wishShare 18 = .ok (.iload_n 1, 1) := by decide +kernel
theorem dX3_wishShare_19 : decode cX3_wishShare 19 = .ok (.ifCond .ne 5, 3) := by decide +kernel
theorem dX3_wishShare_22 : decode cX3_wishShare 22 = .ok (.fconst 0, 1) := by decide +kernel
theorem dX3_wishShare_23 : decode cX3_wishShare 23 = .ok (.freturn, 1) := by decide +kernel
theorem dX3_wishShare_24 : decode cX3_wishShare 24 = .ok (.aload_n 0, 1) := by decide +kernel
theorem dX3_wishShare_25 : decode cX3_wishShare 25 = .ok (.getfield 20, 3) := by decide +kernel
theorem dX3_wishShare_28 : decode cX3_wishShare 28 = .ok (.getfield 197, 3) := by decide +kernel
theorem dX3_wishShare_31 : decode cX3_wishShare 31 = .ok (.aload_n 0, 1) := by decide +kernel
theorem dX3_wishShare_32 : decode cX3_wishShare 32 = .ok (.getfield 20, 3) := by decide +kernel
theorem dX3_wishShare_35 : decode cX3_wishShare 35 = .ok (.getfield 113, 3) := by decide +kernel
theorem dX3_wishShare_38 : decode cX3_wishShare 38 = .ok (.invokestatic 228, 3) := by decide +kernel
theorem dX3_wishShare_41 : decode cX3_wishShare 41 = .ok (.i2f, 1) := by decide +kernel
theorem dX3_wishShare_42 : decode cX3_wishShare 42 = .ok (.iload_n 1, 1) := by decide +kernel
theorem dX3_wishShare_43 : decode cX3_wishShare 43 = .ok (.i2f, 1) := by decide +kernel
theorem dX3_wishShare_44 : decode cX3_wishShare 44 = .ok (.fdiv, 1) := by decide +kernel
theorem dX3_wishShare_45 : decode cX3_wishShare 45 = .ok (.freturn, 1) := by decide +kernel
theorem dX3_advance_0 : decode cX3_advance 0 = .ok (.iload_n 1, 1) := by decide +kernel
theorem dX3_advance_1 : decode cX3_advance 1 = .ok (.iconst 1, 1) := by decide +kernel
theorem dX3_advance_2 : decode cX3_advance 2 = .ok (.if_icmp .lt 10, 3) := by decide +kernel
theorem dX3_advance_5 : decode cX3_advance 5 = .ok (.iload_n 1, 1) := by decide +kernel
theorem dX3_advance_6 : decode cX3_advance 6 = .ok (.sipush 720, 3) := by decide +kernel
theorem dX3_advance_9 : decode cX3_advance 9 = .ok (.if_icmp .le 13, 3) := by decide +kernel
theorem dX3_advance_12 : decode cX3_advance 12 = .ok (.new 105, 3) := by decide +kernel
theorem dX3_advance_15 : decode cX3_advance 15 = .ok (.dup, 1) := by decide +kernel
theorem dX3_advance_16 : decode cX3_advance 16 = .ok (.ldc 247, 2) := by decide +kernel
theorem dX3_advance_18 : decode cX3_advance 18 = .ok (.invokespecial 109, 3) := by decide +kernel
theorem dX3_advance_21 : decode cX3_advance 21 = .ok (.athrow, 1) := by decide +kernel
theorem dX3_advance_22 : decode cX3_advance 22 = .ok (.iload_n 1, 1) := by decide +kernel
theorem dX3_advance_23 : decode cX3_advance 23 = .ok (.aload_n 0, 1) := by decide +kernel
theorem dX3_advance_24 : decode cX3_advance 24 = .ok (.getfield 20, 3) := by decide +kernel
theorem dX3_advance_27 : decode cX3_advance 27 = .ok (.invokevirtual 249, 3) := by decide +kernel
theorem dX3_advance_30 : decode cX3_advance 30 = .ok (.if_icmp .le 13, 3) := by decide +kernel
theorem dX3_advance_33 : decode cX3_advance 33 = .ok (.new 81, 3) := by decide +kernel
theorem dX3_advance_36 : decode cX3_advance 36 = .ok (.dup, 1) := by decide +kernel
theorem dX3_advance_37 : decode cX3_advance 37 = .ok (.ldc 252, 2) := by decide +kernel
theorem dX3_advance_39 : decode cX3_advance 39 = .ok (.invokespecial 85, 3) := by decide +kernel
theorem dX3_advance_42 : decode cX3_advance 42 = .ok (.athrow, 1) := by decide +kernel
theorem dX3_advance_43 : decode cX3_advance 43 = .ok (.aload_n 0, 1) := by decide +kernel
theorem dX3_advance_44 : decode cX3_advance 44 = .ok (.getfield 37, 3) := by decide +kernel
theorem dX3_advance_47 : decode cX3_advance 47 = .ok (.aload_n 0, 1) := by decide +kernel
theorem dX3_advance_48 : decode cX3_advance 48 = .ok (.getfield 20, 3) := by decide +kernel
theorem dX3_advance_51 : decode cX3_advance 51 = .ok (.invokevirtual 254, 3) := by decide +kernel
theorem dX3_advance_54 : decode cX3_advance 54 = .ok (.aload_n 0, 1) := by decide +kernel
theorem dX3_advance_55 : decode cX3_advance 55 = .ok (.getfield 20, 3) := by decide +kernel
theorem dX3_advance_58 : decode cX3_advance 58 = .ok (.iload_n 1, 1) := by decide +kernel
theorem dX3_advance_59 : decode cX3_advance 59 = .ok (.invokevirtual 225, 3) := by decide +kernel
theorem dX3_advance_62 : decode cX3_advance 62 = .ok (.ireturn, 1) := by decide +kernel
theorem dX3_draw_0 : decode cX3_draw 0 = .ok (.aload_n 0, 1) := by decide +kernel
theorem dX3_draw_1 : decode cX3_draw 1 = .ok (.iload_n 1, 1) := by decide +kernel
theorem dX3_draw_2 : decode cX3_draw 2 = .ok (.invokevirtual 179, 3) := by decide +kernel
theorem dX3_draw_5 : decode cX3_draw 5 = .ok (.aload_n 0, 1) := by decide +kernel
theorem dX3_draw_6 : decode cX3_draw 6 = .ok (.getfield 20, 3) := by decide +kernel
theorem dX3_draw_9 : decode cX3_draw 9 = .ok (.iload_n 1, 1) := by decide +kernel
theorem dX3_draw_10 : decode cX3_draw 10 = .ok (.invokevirtual 216, 3) := by decide +kernel
theorem dX3_draw_13 : decode cX3_draw 13 = .ok (.istore_n 2, 1) := by decide +kernel
theorem dX3_draw_14 : decode cX3_draw 14 = .ok (.iload_n 2, 1) := by decide +kernel
theorem dX3_draw_15 : decode cX3_draw 15 = .ok (.iconst (-1), 1) := by decide +kernel
theorem dX3_draw_16 : decode cX3_draw 16 = .ok (.if_icmp .ne 14, 3) := by decide +kernel
theorem dX3_draw_19 : decode cX3_draw 19 = .ok (.new 81, 3) := by decide +kernel
theorem dX3_draw_22 : decode cX3_draw 22 = .ok (.dup, 1) := by decide +kernel
theorem dX3_draw_23 : decode cX3_draw 23 = .ok (.ldc_w 257, 3) := by decide +kernel
theorem dX3_draw_26 : decode cX3_draw 26 = .ok (.invokespecial 85, 3) := by decide +kernel
theorem dX3_draw_29 : decode cX3_draw 29 = .ok (.athrow, 1) := by decide +kernel
theorem dX3_draw_30 : decode cX3_draw 30 = .ok (.aload_n 0, 1) := by decide +kernel
theorem dX3_draw_31 : decode cX3_draw 31 = .ok (.getfield 37, 3) := by decide +kernel
theorem dX3_draw_34 : decode cX3_draw 34 = .ok (.aload_n 0, 1) := by decide +kernel
theorem dX3_draw_35 : decode cX3_draw 35 = .ok (.getfield 20, 3) := by decide +kernel
theorem dX3_draw_38 : decode cX3_draw 38 = .ok (.invokevirtual 254, 3) := by decide +kernel
theorem dX3_draw_41 : decode cX3_draw 41 = .ok (.aload_n 0, 1) := by decide +kernel
theorem dX3_draw_42 : decode cX3_draw 42 = .ok (.getfield 20, 3) := by decide +kernel
theorem dX3_draw_45 : decode cX3_draw 45 = .ok (.iload_n 1, 1) := by decide +kernel
theorem dX3_draw_46 : decode cX3_draw 46 = .ok (.iload_n 2, 1) := by decide +kernel
theorem dX3_draw_47 : decode cX3_draw 47 = .ok (.invokevirtual 259, 3) := by decide +kernel
theorem dX3_draw_50 : decode cX3_draw 50 = .ok (.iload_n 2, 1) := by decide +kernel
theorem dX3_draw_51 : decode cX3_draw 51 = .ok (.ireturn, 1) := by decide +kernel
theorem dX3_setBirthday_0 : decode cX3_setBirthday 0 = .ok (.aload_n 0, 1) := by decide +kernel
theorem dX3_setBirthday_1 : decode cX3_setBirthday 1 = .ok (.iload_n 1, 1) := by decide +kernel
theorem dX3_setBirthday_2 : decode cX3_setBirthday 2 = .ok (.invokevirtual 179, 3) := by decide +kernel
theorem dX3_setBirthday_5 : decode cX3_setBirthday 5 = .ok (.iload_n 2, 1) := by decide +kernel
theorem dX3_setBirthday_6 : decode cX3_setBirthday 6 = .ok (.iload_n 3, 1) := by decide +kernel
theorem dX3_setBirthday_7 : decode cX3_setBirthday 7 = .ok (.invokestatic 168, 3) := by decide +kernel
theorem dX3_setBirthday_10 : decode cX3_setBirthday 10 = .ok (.iload_n 2, 1) := by decide +kernel
theorem dX3_setBirthday_11 : decode cX3_setBirthday 11 = .ok (.iload_n 3, 1) := by decide +kernel
theorem dX3_setBirthday_12 : decode cX3_setBirthday 12 = .ok (.invokestatic 172, 3) := by decide +kernel
theorem dX3_setBirthday_15 : decode cX3_setBirthday 15 = .ok (.istore 4, 2) := by decide +kernel
theorem dX3_setBirthday_17 : decode cX3_setBirthday 17 = .ok (.aload_n 0, 1) := by decide +kernel
theorem dX3_setBirthday_18 : decode cX3_setBirthday 18 = .ok (.getfield 20, 3) := by decide +kernel
theorem dX3_setBirthday_21 : decode cX3_setBirthday 21 = .ok (.iload_n 1, 1) := by decide +kernel
theorem dX3_setBirthday_22 : decode cX3_setBirthday 22 = .ok (.aload_n 0, 1) := by decide +kernel
theorem dX3_setBirthday_23 : decode cX3_setBirthday 23 = .ok (.getfield 20, 3) := by decide +kernel
theorem dX3_setBirthday_26 : decode cX3_setBirthday 26 = .ok (.getfield 161, 3) := by decide +kernel
theorem dX3_setBirthday_29 : decode cX3_setBirthday 29 = .ok (.iload_n 1, 1) := by decide +kernel
theorem dX3_setBirthday_30 : decode cX3_setBirthday 30 = .ok (.invokestatic 145, 3) := by decide +kernel
theorem dX3_setBirthday_33 : decode cX3_setBirthday 33 = .ok (.iload 4, 2) := by decide +kernel
theorem dX3_setBirthday_35 : decode cX3_setBirthday 35 = .ok (.invokevirtual 212, 3) := by decide +kernel
theorem dX3_setBirthday_38 : decode cX3_setBirthday 38 = .ok (.ifCond .eq 14, 3) := by decide +kernel
theorem dX3_setBirthday_41 : decode cX3_setBirthday 41 = .ok (.new 81, 3) := by decide +kernel
theorem dX3_setBirthday_44 : decode cX3_setBirthday 44 = .ok (.dup, 1) := by decide +kernel
theorem dX3_setBirthday_45 : decode cX3_setBirthday 45 = .ok (.ldc_w 262, 3) := by decide +kernel
theorem dX3_setBirthday_48 : decode cX3_setBirthday 48 = .ok (.invokespecial 85, 3) := by decide +kernel
theorem dX3_setBirthday_51 : decode cX3_setBirthday 51 = .ok (.athrow, 1) := by decide +kernel
theorem dX3_setBirthday_52 : decode cX3_setBirthday 52 = .ok (.aload_n 0, 1) := by decide +kernel
theorem dX3_setBirthday_53 : decode cX3_setBirthday 53 = .ok (.getfield 37, 3) := by decide +kernel
theorem dX3_setBirthday_56 : decode cX3_setBirthday 56 = .ok (.aload_n 0, 1) := by decide +kernel
theorem dX3_setBirthday_57 : decode cX3_setBirthday 57 = .ok (.getfield 20, 3) := by decide +kernel
theorem dX3_setBirthday_60 : decode cX3_setBirthday 60 = .ok (.invokevirtual 254, 3) := by decide +kernel
theorem dX3_setBirthday_63 : decode cX3_setBirthday 63 = .ok (.aload_n 0, 1) := by decide +kernel
theorem dX3_setBirthday_64 : decode cX3_setBirthday 64 = .ok (.getfield 20, 3) := by decide +kernel
theorem dX3_setBirthday_67 : decode cX3_setBirthday 67 = .ok (.getfield 176, 3) := by decide +kernel
theorem dX3_setBirthday_70 : decode cX3_setBirthday 70 = .ok (.iload_n 1, 1) := by decide +kernel
theorem dX3_setBirthday_71 : decode cX3_setBirthday 71 = .ok (.iload 4, 2) := by decide +kernel
theorem dX3_setBirthday_73 : decode cX3_setBirthday 73 = .ok (.invokestatic 264, 3) := by decide +kernel
theorem dX3_setBirthday_76 : decode cX3_setBirthday 76 = .ok (.aload_n 0, 1) := by decide +kernel
theorem dX3_setBirthday_77 : decode cX3_setBirthday 77 = .ok (.getfield 20, 3) := by decide +kernel
theorem dX3_setBirthday_80 : decode cX3_setBirthday 80 = .ok (.iload 4, 2) := by decide +kernel
theorem dX3_setBirthday_82 : decode cX3_setBirthday 82 = .ok (.invokevirtual 191, 3) := by decide +kernel
theorem dX3_setBirthday_85 : decode cX3_setBirthday 85 = .ok (.ireturn, 1) := by decide +kernel
theorem dX3_forgetBirthday_0 : decode cX3_forgetBirthday 0 = .ok (.aload_n 0, 1) := by decide +kernel
theorem dX3_forgetBirthday_1 : decode cX3_forgetBirthday 1 = .ok (.iload_n 1, 1) := by decide +kernel
theorem dX3_forgetBirthday_2 : decode cX3_forgetBirthday 2 = .ok (.invokevirtual 179, 3) := by decide +kernel
theorem dX3_forgetBirthday_5 : decode cX3_forgetBirthday 5 = .ok (.aload_n 0, 1) := by decide +kernel
theorem dX3_forgetBirthday_6 : decode cX3_forgetBirthday 6 = .ok (.getfield 20, 3) := by decide +kernel
theorem dX3_forgetBirthday_9 : decode cX3_forgetBirthday 9 = .ok (.getfield 176, 3) := by decide +kernel
theorem dX3_forgetBirthday_12 : decode cX3_forgetBirthday 12 = .ok (.iload_n 1, 1) := by decide +kernel
theorem dX3_forgetBirthday_13 : decode cX3_forgetBirthday 13 = .ok (.invokestatic 145, 3) := by decide +kernel
theorem dX3_forgetBirthday_16 : decode cX3_forgetBirthday 16 = .ok (.istore_n 2, 1) := by decide +kernel
theorem dX3_forgetBirthday_17 : decode cX3_forgetBirthday 17 = .ok (.aload_n 0, 1) := by decide +kernel
theorem dX3_forgetBirthday_18 : decode cX3_forgetBirthday 18 = .ok (.getfield 37, 3) := by decide +kernel
theorem dX3_forgetBirthday_21 : decode cX3_forgetBirthday 21 = .ok (.aload_n 0, 1) := by decide +kernel
theorem dX3_forgetBirthday_22 : decode cX3_forgetBirthday 22 = .ok (.getfield 20, 3) := by decide +kernel
theorem dX3_forgetBirthday_25 : decode cX3_forgetBirthday 25 = .ok (.invokevirtual 254, 3) := by decide +kernel
theorem dX3_forgetBirthday_28 : decode cX3_forgetBirthday 28 = .ok (.aload_n 0, 1) := by decide +kernel
theorem dX3_forgetBirthday_29 : decode cX3_forgetBirthday 29 = .ok (.getfield 20, 3) := by decide +kernel
theorem dX3_forgetBirthday_32 : decode cX3_forgetBirthday 32 = .ok (.getfield 176, 3) := by decide +kernel
theorem dX3_forgetBirthday_35 : decode cX3_forgetBirthday 35 = .ok (.iload_n 1, 1) := by decide +kernel
theorem dX3_forgetBirthday_36 : decode cX3_forgetBirthday 36 = .ok (.iconst (-1), 1) := by decide +kernel
theorem dX3_forgetBirthday_37 : decode cX3_forgetBirthday 37 = .ok (.invokestatic 264, 3) := by decide +kernel
theorem dX3_forgetBirthday_40 : decode cX3_forgetBirthday 40 = .ok (.iload_n 2, 1) := by decide +kernel
theorem dX3_forgetBirthday_41 : decode cX3_forgetBirthday 41 = .ok (.ireturn, 1) := by decide +kernel
theorem dX3_moveTo_0 : decode cX3_moveTo 0 = .ok (.aload_n 0, 1) := by decide +kernel
theorem dX3_moveTo_1 : decode cX3_moveTo 1 = .ok (.iload_n 1, 1) := by decide +kernel
theorem dX3_moveTo_2 : decode cX3_moveTo 2 = .ok (.invokevirtual 179, 3) := by decide +kernel
theorem dX3_moveTo_5 : decode cX3_moveTo 5 = .ok (.aload_n 0, 1) := by decide +kernel
theorem dX3_moveTo_6 : decode cX3_moveTo 6 = .ok (.iload_n 2, 1) := by decide +kernel
theorem dX3_moveTo_7 : decode cX3_moveTo 7 = .ok (.invokevirtual 155, 3) := by decide +kernel
theorem dX3_moveTo_10 : decode cX3_moveTo 10 = .ok (.aload_n 0, 1) := by decide +kernel
theorem dX3_moveTo_11 : decode cX3_moveTo 11 = .ok (.getfield 20, 3) := by decide +kernel
theorem dX3_moveTo_14 : decode cX3_moveTo 14 = .ok (.getfield 176, 3) := by decide +kernel
theorem dX3_moveTo_17 : decode cX3_moveTo 17 = .ok (.iload_n 1, 1) := by decide +kernel
theorem dX3_moveTo_18 : decode cX3_moveTo 18 = .ok (.invokestatic 145, 3) := by decide +kernel
theorem dX3_moveTo_21 : decode cX3_moveTo 21 = .ok (.istore_n 3, 1) := by decide +kernel
theorem dX3_moveTo_22 : decode cX3_moveTo 22 = .ok (.iload_n 3, 1) := by decide +kernel
theorem dX3_moveTo_23 : decode cX3_moveTo 23 = .ok (.iconst (-1), 1) := by decide +kernel
theorem dX3_moveTo_24 : decode cX3_moveTo 24 = .ok (.if_icmp .eq 27, 3) := by decide +kernel
theorem dX3_moveTo_27 : decode cX3_moveTo 27 = .ok (.aload_n 0, 1) := by decide +kernel
theorem dX3_moveTo_28 : decode cX3_moveTo 28 = .ok (.getfield 20, 3) := by decide +kernel
theorem dX3_moveTo_31 : decode cX3_moveTo 31 = .ok (.iload_n 1, 1) := by decide +kernel
theorem dX3_moveTo_32 : decode cX3_moveTo 32 = .ok (.iload_n 2, 1) := by decide +kernel
theorem dX3_moveTo_33 : decode cX3_moveTo 33 = .ok (.iload_n 3, 1) := by decide +kernel
theorem dX3_moveTo_34 : decode cX3_moveTo 34 = .ok (.invokevirtual 212, 3) := by decide +kernel
theorem dX3_moveTo_37 : decode cX3_moveTo 37 = .ok (.ifCond .eq 14, 3) := by decide +kernel
theorem dX3_moveTo_40 : decode cX3_moveTo 40 = .ok (.new 81, 3) := by decide +kernel
theorem dX3_moveTo_43 : decode cX3_moveTo 43 = .ok (.dup, 1) := by decide +kernel
theorem dX3_moveTo_44 : decode cX3_moveTo 44 = .ok (.ldc_w 268, 3) := by decide +kernel
theorem dX3_moveTo_47 : decode cX3_moveTo 47 = .ok (.invokespecial 85, 3) := by decide +kernel
theorem dX3_moveTo_50 : decode cX3_moveTo 50 = .ok (.athrow, 1) := by decide +kernel
theorem dX3_moveTo_51 : decode cX3_moveTo 51 = .ok (.aload_n 0, 1) := by decide +kernel
theorem dX3_moveTo_52 : decode cX3_moveTo 52 = .ok (.getfield 20, 3) := by decide +kernel
theorem dX3_moveTo_55 : decode cX3_moveTo 55 = .ok (.getfield 161, 3) := by decide +kernel
theorem dX3_moveTo_58 : decode cX3_moveTo 58 = .ok (.iload_n 1, 1) := by decide +kernel
theorem dX3_moveTo_59 : decode cX3_moveTo 59 = .ok (.invokestatic 145, 3) := by decide +kernel
theorem dX3_moveTo_62 : decode cX3_moveTo 62 = .ok (.istore 4, 2) := by decide +kernel
theorem dX3_moveTo_64 : decode cX3_moveTo 64 = .ok (.aload_n 0, 1) := by decide +kernel
theorem dX3_moveTo_65 : decode cX3_moveTo 65 = .ok (.getfield 37, 3) := by decide +kernel
theorem dX3_moveTo_68 : decode cX3_moveTo 68 = .ok (.aload_n 0, 1) := by decide +kernel
theorem dX3_moveTo_69 : decode cX3_moveTo 69 = .ok (.getfield 20, 3) := by decide +kernel
theorem dX3_moveTo_72 : decode cX3_moveTo 72 = .ok (.invokevirtual 254, 3) := by decide +kernel
theorem dX3_moveTo_75 : decode cX3_moveTo 75 = .ok (.aload_n 0, 1) := by decide +kernel
theorem dX3_moveTo_76 : decode cX3_moveTo 76 = .ok (.getfield 20, 3) := by decide +kernel
theorem dX3_moveTo_79 : decode cX3_moveTo 79 = .ok (.getfield 161, 3) := by decide +kernel
theorem dX3_moveTo_82 : decode cX3_moveTo 82 = .ok (.iload_n 1, 1) := by decide +kernel
theorem dX3_moveTo_83 : decode cX3_moveTo 83 = .ok (.iload_n 2, 1) := by decide +kernel
theorem dX3_moveTo_84 : decode cX3_moveTo 84 = .ok (.invokestatic 264, 3) := by decide +kernel
theorem dX3_moveTo_87 : decode cX3_moveTo 87 = .ok (.iload 4, 2) := by decide +kernel
theorem dX3_moveTo_89 : decode cX3_moveTo 89 = .ok (.ireturn, 1) := by decide +kernel
theorem dX3_buyCandles_0 : decode cX3_buyCandles 0 = .ok (.iload_n 1, 1) := by decide +kernel
theorem dX3_buyCandles_1 : decode cX3_buyCandles 1 = .ok (.iconst 1, 1) := by decide +kernel
theorem dX3_buyCandles_2 : decode cX3_buyCandles 2 = .ok (.if_icmp .lt 10, 3) := by decide +kernel
theorem dX3_buyCandles_5 : decode cX3_buyCandles 5 = .ok (.iload_n 1, 1) := by decide +kernel
theorem dX3_buyCandles_6 : decode cX3_buyCandles 6 = .ok (.sipush 999, 3) := by decide +kernel
theorem dX3_buyCandles_9 : decode cX3_buyCandles 9 = .ok (.if_icmp .le 14, 3) := by decide +kernel
theorem dX3_buyCandles_12 : decode cX3_buyCandles 12 = .ok (.new 105, 3) := by decide +kernel
theorem dX3_buyCandles_15 : decode cX3_buyCandles 15 = .ok (.dup, 1) := by decide +kernel
theorem dX3_buyCandles_16 : decode cX3_buyCandles 16 = .ok (.ldc_w 270, 3) := by decide +kernel
theorem dX3_buyCandles_19 : decode cX3_buyCandles 19 = .ok (.invokespecial 109, 3) := by decide +kernel
theorem dX3_buyCandles_22 : decode cX3_buyCandles 22 = .ok (.athrow, 1) := by decide +kernel
theorem dX3_buyCandles_23 : decode cX3_buyCandles 23 = .ok (.aload_n 0, 1) := by decide +kernel
theorem dX3_buyCandles_24 : decode cX3_buyCandles 24 = .ok (.getfield 20, 3) := by decide +kernel
theorem dX3_buyCandles_27 : decode cX3_buyCandles 27 = .ok (.getfield 135, 3) := by decide +kernel
theorem dX3_buyCandles_30 : decode cX3_buyCandles 30 = .ok (.iload_n 1, 1) := by decide +kernel
theorem dX3_buyCandles_31 : decode cX3_buyCandles 31 = .ok (.iadd, 1) := by decide +kernel
theorem dX3_buyCandles_32 : decode cX3_buyCandles 32 = .ok (.sipush 9999, 3) := by decide +kernel
theorem dX3_buyCandles_35 : decode cX3_buyCandles 35 = .ok (.if_icmp .le 14, 3) := by decide +kernel
theorem dX3_buyCandles_38 : decode cX3_buyCandles 38 = .ok (.new 81, 3) := by decide +kernel
theorem dX3_buyCandles_41 : decode cX3_buyCandles 41 = .ok (.dup, 1) := by decide +kernel
theorem dX3_buyCandles_42 : decode cX3_buyCandles 42 = .ok (.ldc_w 272, 3) := by decide +kernel
theorem dX3_buyCandles_45 : decode cX3_buyCandles 45 = .ok (.invokespecial 85, 3) := by decide +kernel
theorem dX3_buyCandles_48 : decode cX3_buyCandles 48 = .ok (.athrow, 1) := by decide +kernel
theorem dX3_buyCandles_49 : decode cX3_buyCandles 49 = .ok (.aload_n 0, 1) := by decide +kernel
theorem dX3_buyCandles_50 : decode cX3_buyCandles 50 = .ok (.getfield 37, 3) := by decide +kernel
theorem dX3_buyCandles_53 : decode cX3_buyCandles 53 = .ok (.aload_n 0, 1) := by decide +kernel
theorem dX3_buyCandles_54 : decode cX3_buyCandles 54 = .ok (.getfield 20, 3) := by decide +kernel
theorem dX3_buyCandles_57 : decode cX3_buyCandles 57 = .ok (.invokevirtual 254, 3) := by decide +kernel
theorem dX3_buyCandles_60 : decode cX3_buyCandles 60 = .ok (.aload_n 0, 1) := by decide +kernel
theorem dX3_buyCandles_61 : decode cX3_buyCandles 61 = .ok (.getfield 20, 3) := by decide +kernel
theorem dX3_buyCandles_64 : decode cX3_buyCandles 64 = .ok (.dup, 1) := by decide +kernel
theorem dX3_buyCandles_65 : decode cX3_buyCandles 65 = .ok (.getfield 135, 3) := by decide +kernel
theorem dX3_buyCandles_68 : decode cX3_buyCandles 68 = .ok (.iload_n 1, 1) := by decide +kernel
theorem dX3_buyCandles_69 : decode cX3_buyCandles 69 = .ok (.iadd, 1) := by decide +kernel
theorem dX3_buyCandles_70 : decode cX3_buyCandles 70 = .ok (.putfield 135, 3) := by decide +kernel
theorem dX3_buyCandles_73 : decode cX3_buyCandles 73 = .ok (.aload_n 0, 1) := by decide +kernel
theorem dX3_buyCandles_74 : decode cX3_buyCandles 74 = .ok (.getfield 20, 3) := by decide +kernel
theorem dX3_buyCandles_77 : decode cX3_buyCandles 77 = .ok (.dup, 1) := by decide +kernel
theorem dX3_buyCandles_78 : decode cX3_buyCandles 78 = .ok (.getfield 241, 3) := by decide +kernel
theorem dX3_buyCandles_81 : decode cX3_buyCandles 81 = .ok (.iload_n 1, 1) := by decide +kernel
theorem dX3_buyCandles_82 : decode cX3_buyCandles 82 = .ok (.iadd, 1) := by decide +kernel
theorem dX3_buyCandles_83 : decode cX3_buyCandles 83 = .ok (.putfield 241, 3) := by decide +kernel
theorem dX3_buyCandles_86 : decode cX3_buyCandles 86 = .ok (.aload_n 0, 1) := by decide +kernel
theorem dX3_buyCandles_87 : decode cX3_buyCandles 87 = .ok (.getfield 20, 3) := by decide +kernel
theorem dX3_buyCandles_90 : decode cX3_buyCandles 90 = .ok (.getfield 135, 3) := by decide +kernel
theorem dX3_buyCandles_93 : decode cX3_buyCandles 93 = .ok (.ireturn, 1) := by decide +kernel
theorem dX3_bakeCakes_0 : decode cX3_bakeCakes 0 = .ok (.iload_n 1, 1) := by decide +kernel
theorem dX3_bakeCakes_1 : decode cX3_bakeCakes 1 = .ok (.invokestatic 138, 3) := by decide +kernel
theorem dX3_bakeCakes_4 : decode cX3_bakeCakes 4 = .ok (.iload_n 2, 1) := by decide +kernel
theorem dX3_bakeCakes_5 : decode cX3_bakeCakes 5 = .ok (.iconst 1, 1) := by decide +kernel
theorem dX3_bakeCakes_6 : decode cX3_bakeCakes 6 = .ok (.if_icmp .lt 9, 3) := by decide +kernel
theorem dX3_bakeCakes_9 : decode cX3_bakeCakes 9 = .ok (.iload_n 2, 1) := by decide +kernel
theorem dX3_bakeCakes_10 : decode cX3_bakeCakes 10 = .ok (.bipush 99, 2) := by decide +kernel
theorem dX3_bakeCakes_12 : decode cX3_bakeCakes 12 = .ok (.if_icmp .le 14, 3) := by decide +kernel
theorem dX3_bakeCakes_15 : decode cX3_bakeCakes 15 = .ok (.new 105, 3) := by decide +kernel
theorem dX3_bakeCakes_18 : decode cX3_bakeCakes 18 = .ok (.dup, 1) := by decide +kernel
theorem dX3_bakeCakes_19 : decode cX3_bakeCakes 19 = .ok (.ldc_w 270, 3) := by decide +kernel
theorem dX3_bakeCakes_22 : decode cX3_bakeCakes 22 = .ok (.invokespecial 109, 3) := by decide +kernel
theorem dX3_bakeCakes_25 : decode cX3_bakeCakes 25 = .ok (.athrow, 1) := by decide +kernel
theorem dX3_bakeCakes_26 : decode cX3_bakeCakes 26 = .ok (.aload_n 0, 1) := by decide +kernel
theorem dX3_bakeCakes_27 : decode cX3_bakeCakes 27 = .ok (.getfield 20, 3) := by decide +kernel
theorem dX3_bakeCakes_30 : decode cX3_bakeCakes 30 = .ok (.getfield 141, 3) := by decide +kernel
theorem dX3_bakeCakes_33 : decode cX3_bakeCakes 33 = .ok (.iload_n 1, 1) := by decide +kernel
theorem dX3_bakeCakes_34 : decode cX3_bakeCakes 34 = .ok (.invokestatic 145, 3) := by decide +kernel
theorem dX3_bakeCakes_37 : decode cX3_bakeCakes 37 = .ok (.iload_n 2, 1) := by decide +kernel
theorem dX3_bakeCakes_38 : decode cX3_bakeCakes 38 = .ok (.iadd, 1) := by decide +kernel
theorem dX3_bakeCakes_39 : decode cX3_bakeCakes 39 = .ok (.bipush 99, 2) := by decide +kernel
theorem dX3_bakeCakes_41 : decode cX3_bakeCakes 41 = .ok (.if_icmp .le 14, 3) := by decide +kernel
theorem dX3_bakeCakes_44 : decode cX3_bakeCakes 44 = .ok (.new 81, 3) := by decide +kernel
theorem dX3_bakeCakes_47 : decode cX3_bakeCakes 47 = .ok (.dup, 1) := by decide +kernel
theorem dX3_bakeCakes_48 : decode cX3_bakeCakes 48 = .ok (.ldc_w 274, 3) := by decide +kernel
theorem dX3_bakeCakes_51 : decode cX3_bakeCakes 51 = .ok (.invokespecial 85, 3) := by decide +kernel
theorem dX3_bakeCakes_54 : decode cX3_bakeCakes 54 = .ok (.athrow, 1) := by decide +kernel
theorem dX3_bakeCakes_55 : decode cX3_bakeCakes 55 = .ok (.aload_n 0, 1) := by decide +kernel
theorem dX3_bakeCakes_56 : decode cX3_bakeCakes 56 = .ok (.getfield 37, 3) := by decide +kernel
theorem dX3_bakeCakes_59 : decode cX3_bakeCakes 59 = .ok (.aload_n 0, 1) := by decide +kernel
theorem dX3_bakeCakes_60 : decode cX3_bakeCakes 60 = .ok (.getfield 20, 3) := by decide +kernel
theorem dX3_bakeCakes_63 : decode cX3_bakeCakes 63 = .ok (.invokevirtual 254, 3) := by decide +kernel
theorem dX3_bakeCakes_66 : decode cX3_bakeCakes 66 = .ok (.aload_n 0, 1) := by decide +kernel
theorem dX3_bakeCakes_67 : decode cX3_bakeCakes 67 = .ok (.getfield 20, 3) := by decide +kernel
theorem dX3_bakeCakes_70 : decode cX3_bakeCakes 70 = .ok (.getfield 141, 3) := by decide +kernel
theorem dX3_bakeCakes_73 : decode cX3_bakeCakes 73 = .ok (.iload_n 1, 1) := by decide +kernel
theorem dX3_bakeCakes_74 : decode cX3_bakeCakes 74 = .ok (.iload_n 2, 1) := by decide +kernel
theorem dX3_bakeCakes_75 : decode cX3_bakeCakes 75 = .ok (.invokestatic 276, 3) := by decide +kernel
theorem dX3_bakeCakes_78 : decode cX3_bakeCakes 78 = .ok (.aload_n 0, 1) := by decide +kernel
theorem dX3_bakeCakes_79 : decode cX3_bakeCakes 79 = .ok (.getfield 20, 3) := by decide +kernel
theorem dX3_bakeCakes_82 : decode cX3_bakeCakes 82 = .ok (.getfield 141, 3) := by decide +kernel
theorem dX3_bakeCakes_85 : decode cX3_bakeCakes 85 = .ok (.iload_n 1, 1) := by decide +kernel
theorem dX3_bakeCakes_86 : decode cX3_bakeCakes 86 = .ok (.invokestatic 145, 3) := by decide +kernel
theorem dX3_bakeCakes_89 : decode cX3_bakeCakes 89 = .ok (.ireturn, 1) := by decide +kernel
theorem dX3_restore_0 : decode cX3_restore 0 = .ok (.iload_n 1, 1) := by decide +kernel
theorem dX3_restore_1 : decode cX3_restore 1 = .ok (.invokestatic 279, 3) := by decide +kernel
theorem dX3_restore_4 : decode cX3_restore 4 = .ok (.aload_n 0, 1) := by decide +kernel
theorem dX3_restore_5 : decode cX3_restore 5 = .ok (.iload_n 1, 1) := by decide +kernel
theorem dX3_restore_6 : decode cX3_restore 6 = .ok (.invokevirtual 282, 3) := by decide +kernel
theorem dX3_restore_9 : decode cX3_restore 9 = .ok (.astore_n 2, 1) := by decide +kernel
theorem dX3_restore_10 : decode cX3_restore 10 = .ok (.aload_n 2, 1) := by decide +kernel
theorem dX3_restore_11 : decode cX3_restore 11 = .ok (.ifnull 11, 3) := by decide +kernel
theorem dX3_restore_14 : decode cX3_restore 14 = .ok (.aload_n 0, 1) := by decide +kernel
theorem dX3_restore_15 : decode cX3_restore 15 = .ok (.iload_n 1, 1) := by decide +kernel
theorem dX3_restore_16 : decode cX3_restore 16 = .ok (.invokevirtual 286, 3) := by decide +kernel
theorem dX3_restore_19 : decode cX3_restore 19 = .ok (.ifCond .ne 14, 3) := by decide +kernel
theorem dX3_restore_22 : decode cX3_restore 22 = .ok (.new 81, 3) := by decide +kernel
theorem dX3_restore_25 : decode cX3_restore 25 = .ok (.dup, 1) := by decide +kernel
theorem dX3_restore_26 : decode cX3_restore 26 = .ok (.ldc_w 289, 3) := by decide +kernel
theorem dX3_restore_29 : decode cX3_restore 29 = .ok (.invokespecial 85, 3) := by decide +kernel
theorem dX3_restore_32 : decode cX3_restore 32 = .ok (.athrow, 1) := by decide +kernel
theorem dX3_restore_33 : decode cX3_restore 33 = .ok (.aload_n 0, 1) := by decide +kernel
theorem dX3_restore_34 : decode cX3_restore 34 = .ok (.getfield 37, 3) := by decide +kernel
theorem dX3_restore_37 : decode cX3_restore 37 = .ok (.aload_n 0, 1) := by decide +kernel
theorem dX3_restore_38 : decode cX3_restore 38 = .ok (.getfield 20, 3) := by decide +kernel
theorem dX3_restore_41 : decode cX3_restore 41 = .ok (.invokevirtual 254, 3) := by decide +kernel
theorem dX3_restore_44 : decode cX3_restore 44 = .ok (.aload_n 0, 1) := by decide +kernel
theorem dX3_restore_45 : decode cX3_restore 45 = .ok (.getfield 20, 3) := by decide +kernel
theorem dX3_restore_48 : decode cX3_restore 48 = .ok (.aload_n 2, 1) := by decide +kernel
theorem dX3_restore_49 : decode cX3_restore 49 = .ok (.invokevirtual 77, 3) := by decide +kernel
theorem dX3_restore_52 : decode cX3_restore 52 = .ok (.aload_n 0, 1) := by decide +kernel
theorem dX3_restore_53 : decode cX3_restore 53 = .ok (.getfield 20, 3) := by decide +kernel
theorem dX3_restore_56 : decode cX3_restore 56 = .ok (.getfield 116, 3) := by decide +kernel
theorem dX3_restore_59 : decode cX3_restore 59 = .ok (.ireturn, 1) := by decide +kernel
theorem dX3_stateIn_0 : decode cX3_stateIn 0 = .ok (.iload_n 1, 1) := by decide +kernel
theorem dX3_stateIn_1 : decode cX3_stateIn 1 = .ok (.ifCond .lt 21, 3) := by decide +kernel
theorem dX3_stateIn_4 : decode cX3_stateIn 4 = .ok (.iload_n 1, 1) := by decide +kernel
theorem dX3_stateIn_5 : decode cX3_stateIn 5 = .ok (.aload_n 0, 1) := by decide +kernel
theorem dX3_stateIn_6 : decode cX3_stateIn 6 = .ok (.getfield 41, 3) := by decide +kernel
theorem dX3_stateIn_9 : decode cX3_stateIn 9 = .ok (.arraylength, 1) := by decide +kernel
theorem dX3_stateIn_10 : decode cX3_stateIn 10 = .ok (.if_icmp .ge 12, 3) := by decide +kernel
theorem dX3_stateIn_13 : decode cX3_stateIn 13 = .ok (.aload_n 0, 1) := by decide +kernel
theorem dX3_stateIn_14 : decode cX3_stateIn 14 = .ok (.getfield 41, 3) := by decide +kernel
theorem dX3_stateIn_17 : decode cX3_stateIn 17 = .ok (.iload_n 1, 1) := by decide +kernel
theorem dX3_stateIn_18 : decode cX3_stateIn 18 = .ok (.aaload, 1) := by decide +kernel
theorem dX3_stateIn_19 : decode cX3_stateIn 19 = .ok (.goto 4, 3) := by decide +kernel
theorem dX3_stateIn_22 : decode cX3_stateIn 22 = .ok (.aconst_null, 1) := by decide +kernel
theorem dX3_stateIn_23 : decode cX3_stateIn 23 = .ok (.areturn, 1) := by decide +kernel
theorem dX3_isFilled_0 : decode cX3_isFilled 0 = .ok (.iload_n 1, 1) := by decide +kernel
theorem dX3_isFilled_1 : decode cX3_isFilled 1 = .ok (.ifCond .lt 25, 3) := by decide +kernel
theorem dX3_isFilled_4 : decode cX3_isFilled 4 = .ok (.iload_n 1, 1) := by decide +kernel
theorem dX3_isFilled_5 : decode cX3_isFilled 5 = .ok (.aload_n 0, 1) := by decide +kernel
theorem dX3_isFilled_6 : decode cX3_isFilled 6 = .ok (.getfield 45, 3) := by decide +kernel
theorem dX3_isFilled_9 : decode cX3_isFilled 9 = .ok (.arraylength, 1) := by decide +kernel
theorem dX3_isFilled_10 : decode cX3_isFilled 10 = .ok (.if_icmp .ge 16, 3) := by decide +kernel
theorem dX3_isFilled_13 : decode cX3_isFilled 13 = .ok (.aload_n 0, 1) := by decide +kernel
theorem dX3_isFilled_14 : decode cX3_isFilled 14 = .ok (.getfield 45, 3) := by decide +kernel
theorem dX3_isFilled_17 : decode cX3_isFilled 17 = .ok (.iload_n 1, 1) := by decide +kernel
theorem dX3_isFilled_18 : decode cX3_isFilled 18 = .ok (.baload, 1) := by decide +kernel
theorem dX3_isFilled_19 : decode cX3_isFilled 19 = .ok (.ifCond .eq 7, 3) := by decide +kernel
theorem dX3_isFilled_22 : decode cX3_isFilled 22 = .ok (.iconst 1, 1) := by decide +kernel
theorem dX3_isFilled_23 : decode cX3_isFilled 23 = .ok (.goto 4, 3) := by decide +kernel
theorem dX3_isFilled_26 : decode cX3_isFilled 26 = .ok (.iconst 0, 1) := by decide +kernel
theorem dX3_isFilled_27 : decode cX3_isFilled 27 = .ok (.ireturn, 1) := by decide +kernel
theorem dX3_undo_0 : decode cX3_undo 0 = .ok (.aload_n 0, 1) := by decide +kernel
theorem dX3_undo_1 : decode cX3_undo 1 = .ok (.getfield 37, 3) := by decide +kernel
theorem dX3_undo_4 : decode cX3_undo 4 = .ok (.getfield 291, 3) := by decide +kernel
theorem dX3_undo_7 : decode cX3_undo 7 = .ok (.ifCond .ne 14, 3) := by decide +kernel
theorem dX3_undo_10 : decode cX3_undo 10 = .ok (.new 81, 3) := by decide +kernel
theorem dX3_undo_13 : decode cX3_undo 13 = .ok (.dup, 1) := by decide +kernel
theorem dX3_undo_14 : decode cX3_undo 14 = .ok (.ldc_w 294, 3) := by decide +kernel
theorem dX3_undo_17 : decode cX3_undo 17 = .ok (.invokespecial 85, 3) := by decide +kernel
theorem dX3_undo_20 : decode cX3_undo 20 = .ok (.athrow, 1) := by decide +kernel
theorem dX3_undo_21 : decode cX3_undo 21 = .ok (.aload_n 0, 1) := by decide +kernel
theorem dX3_undo_22 : decode cX3_undo 22 = .ok (.getfield 37, 3) := by decide +kernel
theorem dX3_undo_25 : decode cX3_undo 25 = .ok (.aload_n 0, 1) := by decide +kernel
theorem dX3_undo_26 : decode cX3_undo 26 = .ok (.getfield 20, 3) := by decide +kernel
theorem dX3_undo_29 : decode cX3_undo 29 = .ok (.invokevirtual 296, 3) := by decide +kernel
theorem dX3_undo_32 : decode cX3_undo 32 = .ok (.aload_n 0, 1) := by decide +kernel
theorem dX3_undo_33 : decode cX3_undo 33 = .ok (.getfield 37, 3) := by decide +kernel
theorem dX3_undo_36 : decode cX3_undo 36 = .ok (.getfield 291, 3) := by decide +kernel
theorem dX3_undo_39 : decode cX3_undo 39 = .ok (.ireturn, 1) := by decide +kernel
theorem dX3_save_0 : decode cX3_save 0 = .ok (.iload_n 1, 1) := by decide +kernel
theorem dX3_save_1 : decode cX3_save 1 = .ok (.invokestatic 279, 3) := by decide +kernel
theorem dX3_save_4 : decode cX3_save 4 = .ok (.aload_n 0, 1) := by decide +kernel
theorem dX3_save_5 : decode cX3_save 5 = .ok (.iload_n 1, 1) := by decide +kernel
theorem dX3_save_6 : decode cX3_save 6 = .ok (.invokevirtual 282, 3) := by decide +kernel
theorem dX3_save_9 : decode cX3_save 9 = .ok (.astore_n 2, 1) := by decide +kernel
theorem dX3_save_10 : decode cX3_save 10 = .ok (.aload_n 2, 1) := by decide +kernel
theorem dX3_save_11 : decode cX3_save 11 = .ok (.ifnull 31, 3) := by decide +kernel
theorem dX3_save_14 : decode cX3_save 14 = .ok (.iload_n 1, 1) := by decide +kernel
theorem dX3_save_15 : decode cX3_save 15 = .ok (.ifCond .lt 27, 3) := by decide +kernel
theorem dX3_save_18 : decode cX3_save 18 = .ok (.iload_n 1, 1) := by decide +kernel
theorem dX3_save_19 : decode cX3_save 19 = .ok (.aload_n 0, 1) := by decide +kernel
theorem dX3_save_20 : decode cX3_save 20 = .ok (.getfield 45, 3) := by decide +kernel
theorem dX3_save_23 : decode cX3_save 23 = .ok (.arraylength, 1) := by decide +kernel
theorem dX3_save_24 : decode cX3_save 24 = .ok (.if_icmp .ge 18, 3) := by decide +kernel
theorem dX3_save_27 : decode cX3_save 27 = .ok (.aload_n 2, 1) := by decide +kernel
theorem dX3_save_28 : decode cX3_save 28 = .ok (.aload_n 0, 1) := by decide +kernel
theorem dX3_save_29 : decode cX3_save 29 = .ok (.getfield 20, 3) := by decide +kernel
theorem dX3_save_32 : decode cX3_save 32 = .ok (.invokevirtual 77, 3) := by decide +kernel
theorem dX3_save_35 : decode cX3_save 35 = .ok (.aload_n 0, 1) := by decide +kernel
theorem dX3_save_36 : decode cX3_save 36 = .ok (.getfield 45, 3) := by decide +kernel
theorem dX3_save_39 : decode cX3_save 39 = .ok (.iload_n 1, 1) := by decide +kernel
theorem dX3_save_40 : decode cX3_save 40 = .ok (.iconst 1, 1) := by decide +kernel
theorem dX3_save_41 : decode cX3_save 41 = .ok (.bastore, 1) := by decide +kernel
theorem dX3_save_42 : decode cX3_save 42 = .ok (.aload_n 0, 1) := by decide +kernel
theorem dX3_save_43 : decode cX3_save 43 = .ok (.getfield 20, 3) := by decide +kernel
theorem dX3_save_46 : decode cX3_save 46 = .ok (.getfield 116, 3) := by decide +kernel
theorem dX3_save_49 : decode cX3_save 49 = .ok (.ireturn, 1) := by decide +kernel
theorem dX3_writeChild_0 : decode cX3_writeChild 0 = .ok (.aload_n 0, 1) := by decide +kernel
theorem dX3_writeChild_1 : decode cX3_writeChild 1 = .ok (.iload_n 1, 1) := by decide +kernel
theorem dX3_writeChild_2 : decode cX3_writeChild 2 = .ok (.invokevirtual 179, 3) := by decide +kernel
theorem dX3_writeChild_5 : decode cX3_writeChild 5 = .ok (.aload_n 0, 1) := by decide +kernel
theorem dX3_writeChild_6 : decode cX3_writeChild 6 = .ok (.iconst 0, 1) := by decide +kernel
theorem dX3_writeChild_7 : decode cX3_writeChild 7 = .ok (.putfield 299, 3) := by decide +kernel
theorem dX3_writeChild_10 : decode cX3_writeChild 10 = .ok (.aload_n 0, 1) := by decide +kernel
theorem dX3_writeChild_11 : decode cX3_writeChild 11 = .ok (.aload_n 0, 1) := by decide +kernel
theorem dX3_writeChild_12 : decode cX3_writeChild 12 = .ok (.getfield 20, 3) := by decide +kernel
theorem dX3_writeChild_15 : decode cX3_writeChild 15 = .ok (.getfield 302, 3) := by decide +kernel
theorem dX3_writeChild_18 : decode cX3_writeChild 18 = .ok (.iload_n 1, 1) := by decide +kernel
theorem dX3_writeChild_19 : decode cX3_writeChild 19 = .ok (.invokestatic 145, 3) := by decide +kernel
theorem dX3_writeChild_22 : decode cX3_writeChild 22 = .ok (.invokevirtual 305, 3) := by decide +kernel
theorem dX3_writeChild_25 : decode cX3_writeChild 25 = .ok (.aload_n 0, 1) := by decide +kernel
theorem dX3_writeChild_26 : decode cX3_writeChild 26 = .ok (.bipush 32, 2) := by decide +kernel
theorem dX3_writeChild_28 : decode cX3_writeChild 28 = .ok (.invokevirtual 308, 3) := by decide +kernel
theorem dX3_writeChild_31 : decode cX3_writeChild 31 = .ok (.aload_n 0, 1) := by decide +kernel
theorem dX3_writeChild_32 : decode cX3_writeChild 32 = .ok (.aload_n 0, 1) := by decide +kernel
theorem dX3_writeChild_33 : decode cX3_writeChild 33 = .ok (.getfield 20, 3) := by decide +kernel
theorem dX3_writeChild_36 : decode cX3_writeChild 36 = .ok (.getfield 188, 3) := by decide +kernel
theorem dX3_writeChild_39 : decode cX3_writeChild 39 = .ok (.iload_n 1, 1) := by decide +kernel
theorem dX3_writeChild_40 : decode cX3_writeChild 40 = .ok (.invokestatic 145, 3) := by decide +kernel
theorem dX3_writeChild_43 : decode cX3_writeChild 43 = .ok (.invokevirtual 311, 3) := by decide +kernel
theorem dX3_writeChild_46 : decode cX3_writeChild 46 = .ok (.aload_n 0, 1) := by decide +kernel
theorem dX3_writeChild_47 : decode cX3_writeChild 47 = .ok (.getfield 20, 3) := by decide +kernel
theorem dX3_writeChild_50 : decode cX3_writeChild 50 = .ok (.getfield 176, 3) := by decide +kernel
theorem dX3_writeChild_53 : decode cX3_writeChild 53 = .ok (.iload_n 1, 1) := by decide +kernel
theorem dX3_writeChild_54 : decode cX3_writeChild 54 = .ok (.invokestatic 145, 3) := by decide +kernel
theorem dX3_writeChild_57 : decode cX3_writeChild 57 = .ok (.istore_n 2, 1) := by decide +kernel
theorem dX3_writeChild_58 : decode cX3_writeChild 58 = .ok (.iload_n 2, 1) := by decide +kernel
theorem dX3_writeChild_59 : decode cX3_writeChild 59 = .ok (.iconst (-1), 1) := by decide +kernel
theorem dX3_writeChild_60 : decode cX3_writeChild 60 = .ok (.if_icmp .eq 31, 3) := by decide +kernel
theorem dX3_writeChild_63 : decode cX3_writeChild 63 = .ok (.aload_n 0, 1) := by decide +kernel
theorem dX3_writeChild_64 : decode cX3_writeChild 64 = .ok (.bipush 32, 2) := by decide +kernel
theorem dX3_writeChild_66 : decode cX3_writeChild 66 = .ok (.invokevirtual 308, 3) := by decide +kernel
theorem dX3_writeChild_69 : decode cX3_writeChild 69 = .ok (.aload_n 0, 1) := by decide +kernel
theorem dX3_writeChild_70 : decode cX3_writeChild 70 = .ok (.iload_n 2, 1) := by decide +kernel
theorem dX3_writeChild_71 : decode cX3_writeChild 71 = .ok (.invokestatic 122, 3) := by decide +kernel
theorem dX3_writeChild_74 : decode cX3_writeChild 74 = .ok (.invokevirtual 311, 3) := by decide +kernel
theorem dX3_writeChild_77 : decode cX3_writeChild 77 = .ok (.aload_n 0, 1) := by decide +kernel
theorem dX3_writeChild_78 : decode cX3_writeChild 78 = .ok (.bipush 47, 2) := by decide +kernel
theorem dX3_writeChild_80 : decode cX3_writeChild 80 = .ok (.invokevirtual 308, 3) := by decide +kernel
theorem dX3_writeChild_83 : decode cX3_writeChild 83 = .ok (.aload_n 0, 1) := by decide +kernel
theorem dX3_writeChild_84 : decode cX3_writeChild 84 = .ok (.iload_n 2, 1) := by decide +kernel
theorem dX3_writeChild_85 : decode cX3_writeChild 85 = .ok (.invokestatic 126, 3) := by decide +kernel
theorem dX3_writeChild_88 : decode cX3_writeChild 88 = .ok (.invokevirtual 311, 3) := by decide +kernel
theorem dX3_writeChild_91 : decode cX3_writeChild 91 = .ok (.aload_n 0, 1) := by decide +kernel
theorem dX3_writeChild_92 : decode cX3_writeChild 92 = .ok (.getfield 299, 3) := by decide +kernel
theorem dX3_writeChild_95 : decode cX3_writeChild 95 = .ok (.ireturn, 1) := by decide +kernel
theorem dX3_writeDate_0 : decode cX3_writeDate 0 = .ok (.aload_n 0, 1) := by decide +kernel
theorem dX3_writeDate_1 : decode cX3_writeDate 1 = .ok (.iconst 0, 1) := by decide +kernel
theorem dX3_writeDate_2 : decode cX3_writeDate 2 = .ok (.putfield 299, 3) := by decide +kernel
theorem dX3_writeDate_5 : decode cX3_writeDate 5 = .ok (.aload_n 0, 1) := by decide +kernel
theorem dX3_writeDate_6 : decode cX3_writeDate 6 = .ok (.aload_n 0, 1) := by decide +kernel
theorem dX3_writeDate_7 : decode cX3_writeDate 7 = .ok (.getfield 20, 3) := by decide +kernel
theorem dX3_writeDate_10 : decode cX3_writeDate 10 = .ok (.getfield 119, 3) := by decide +kernel
theorem dX3_writeDate_13 : decode cX3_writeDate 13 = .ok (.invokestatic 126, 3) := by decide +kernel
theorem dX3_writeDate_16 : decode cX3_writeDate 16 = .ok (.invokevirtual 311, 3) := by decide +kernel
theorem dX3_writeDate_19 : decode cX3_writeDate 19 = .ok (.aload_n 0, 1) := by decide +kernel
theorem dX3_writeDate_20 : decode cX3_writeDate 20 = .ok (.bipush 46, 2) := by decide +kernel
theorem dX3_writeDate_22 : decode cX3_writeDate 22 = .ok (.invokevirtual 308, 3) := by decide +kernel
theorem dX3_writeDate_25 : decode cX3_writeDate 25 = .ok (.aload_n 0, 1) := by decide +kernel
theorem dX3_writeDate_26 : decode cX3_writeDate 26 = .ok (.aload_n 0, 1) := by decide +kernel
theorem dX3_writeDate_27 : decode cX3_writeDate 27 = .ok (.getfield 20, 3) := by decide +kernel
theorem dX3_writeDate_30 : decode cX3_writeDate 30 = .ok (.getfield 119, 3) := by decide +kernel
theorem dX3_writeDate_33 : decode cX3_writeDate 33 = .ok (.invokestatic 122, 3) := by decide +kernel
theorem dX3_writeDate_36 : decode cX3_writeDate 36 = .ok (.invokevirtual 311, 3) := by decide +kernel
theorem dX3_writeDate_39 : decode cX3_writeDate 39 = .ok (.aload_n 0, 1) := by decide +kernel
theorem dX3_writeDate_40 : decode cX3_writeDate 40 = .ok (.bipush 46, 2) := by decide +kernel
theorem dX3_writeDate_42 : decode cX3_writeDate 42 = .ok (.invokevirtual 308, 3) := by decide +kernel
theorem dX3_writeDate_45 : decode cX3_writeDate 45 = .ok (.aload_n 0, 1) := by decide +kernel
theorem dX3_writeDate_46 : decode cX3_writeDate 46 = .ok (.aload_n 0, 1) := by decide +kernel
theorem dX3_writeDate_47 : decode cX3_writeDate 47 = .ok (.getfield 20, 3) := by decide +kernel
theorem dX3_writeDate_50 : decode cX3_writeDate 50 = .ok (.getfield 116, 3) := by decide +kernel
theorem dX3_writeDate_53 : decode cX3_writeDate 53 = .ok (.invokevirtual 311, 3) := by decide +kernel
theorem dX3_writeDate_56 : decode cX3_writeDate 56 = .ok (.aload_n 0, 1) := by decide +kernel
theorem dX3_writeDate_57 : decode cX3_writeDate 57 = .ok (.getfield 299, 3) := by decide +kernel
theorem dX3_writeDate_60 : decode cX3_writeDate 60 = .ok (.ireturn, 1) := by decide +kernel
theorem dX3_outputByte_0 : decode cX3_outputByte 0 = .ok (.iload_n 1, 1) := by decide +kernel
theorem dX3_outputByte_1 : decode cX3_outputByte 1 = .ok (.ifCond .lt 20, 3) := by decide +kernel
theorem dX3_outputByte_4 : decode cX3_outputByte 4 = .ok (.iload_n 1, 1) := by decide +kernel
theorem dX3_outputByte_5 : decode cX3_outputByte 5 = .ok (.aload_n 0, 1) := by decide +kernel
theorem dX3_outputByte_6 : decode cX3_outputByte 6 = .ok (.getfield 299, 3) := by decide +kernel
theorem dX3_outputByte_9 : decode cX3_outputByte 9 = .ok (.if_icmp .ge 12, 3) := by decide +kernel
theorem dX3_outputByte_12 : decode cX3_outputByte 12 = .ok (.iload_n 1, 1) := by decide +kernel
theorem dX3_outputByte_13 : decode cX3_outputByte 13 = .ok (.aload_n 0, 1) := by decide +kernel
theorem dX3_outputByte_14 : decode cX3_outputByte 14 = .ok (.getfield 9, 3) := by decide +kernel
theorem dX3_outputByte_17 : decode cX3_outputByte 17 = .ok (.arraylength, 1) := by decide +kernel
theorem dX3_outputByte_18 : decode cX3_outputByte 18 = .ok (.if_icmp .lt 14, 3) := by decide +kernel
theorem dX3_outputByte_21 : decode cX3_outputByte 21 = .ok (.new 91, 3) := by decide +kernel
theorem dX3_outputByte_24 : decode cX3_outputByte 24 = .ok (.dup, 1) := by decide +kernel
theorem dX3_outputByte_25 : decode cX3_outputByte 25 = .ok (.ldc_w 314, 3) := by decide +kernel
theorem dX3_outputByte_28 : decode cX3_outputByte 28 = .ok (.invokespecial 95, 3) := by decide +kernel
theorem dX3_outputByte_31 : decode cX3_outputByte 31 = .ok (.athrow, 1) := by decide +kernel
theorem dX3_outputByte_32 : decode cX3_outputByte 32 = .ok (.aload_n 0, 1) := by decide +kernel
theorem dX3_outputByte_33 : decode cX3_outputByte 33 = .ok (.getfield 9, 3) := by decide +kernel
theorem dX3_outputByte_36 : decode cX3_outputByte 36 = .ok (.iload_n 1, 1) := by decide +kernel
theorem dX3_outputByte_37 : decode cX3_outputByte 37 = .ok (.baload, 1) := by decide +kernel
theorem dX3_outputByte_38 : decode cX3_outputByte 38 = .ok (.ireturn, 1) := by decide +kernel
theorem dX3_writeName_0 : decode cX3_writeName 0 = .ok (.ldc_w 316, 3) := by decide +kernel
theorem dX3_writeName_3 : decode cX3_writeName 3 = .ok (.istore_n 2, 1) := by decide +kernel
theorem dX3_writeName_4 : decode cX3_writeName 4 = .ok (.iload_n 2, 1) := by decide +kernel
theorem dX3_writeName_5 : decode cX3_writeName 5 = .ok (.ifCond .le 32, 3) := by decide +kernel
theorem dX3_writeName_8 : decode cX3_writeName 8 = .ok (.iload_n 1, 1) := by decide +kernel
theorem dX3_writeName_9 : decode cX3_writeName 9 = .ok (.iload_n 2, 1) := by decide +kernel
theorem dX3_writeName_10 : decode cX3_writeName 10 = .ok (.idiv, 1) := by decide +kernel
theorem dX3_writeName_11 : decode cX3_writeName 11 = .ok (.bipush 27, 2) := by decide +kernel
theorem dX3_writeName_13 : decode cX3_writeName 13 = .ok (.irem, 1) := by decide +kernel
theorem dX3_writeName_14 : decode cX3_writeName 14 = .ok (.istore_n 3, 1) := by decide +kernel
theorem dX3_writeName_15 : decode cX3_writeName 15 = .ok (.iload_n 3, 1) := by decide +kernel
theorem dX3_writeName_16 : decode cX3_writeName 16 = .ok (.ifCond .le 13, 3) := by decide +kernel
theorem dX3_writeName_19 : decode cX3_writeName 19 = .ok (.aload_n 0, 1) := by decide +kernel
theorem dX3_writeName_20 : decode cX3_writeName 20 = .ok (.bipush 97, 2) := by decide +kernel
theorem dX3_writeName_22 : decode cX3_writeName 22 = .ok (.iload_n 3, 1) := by decide +kernel
theorem dX3_writeName_23 : decode cX3_writeName 23 = .ok (.iadd, 1) := by decide +kernel
theorem dX3_writeName_24 : decode cX3_writeName 24 = .ok (.iconst 1, 1) := by decide +kernel
theorem dX3_writeName_25 : decode cX3_writeName 25 = .ok (.isub, 1) := by decide +kernel
theorem dX3_writeName_26 : decode cX3_writeName 26 = .ok (.invokevirtual 308, 3) := by decide +kernel
theorem dX3_writeName_29 : decode cX3_writeName 29 = .ok (.iload_n 2, 1) := by decide +kernel
theorem dX3_writeName_30 : decode cX3_writeName 30 = .ok (.bipush 27, 2) := by decide +kernel
theorem dX3_writeName_32 : decode cX3_writeName 32 = .ok (.idiv, 1) := by decide +kernel
theorem dX3_writeName_33 : decode cX3_writeName 33 = .ok (.istore_n 2, 1) := by decide +kernel
theorem dX3_writeName_34 : decode cX3_writeName 34 = .ok (.goto (-30), 3) := by decide +kernel
theorem dX3_writeName_37 : decode cX3_writeName 37 = .ok (.return_, 1) := by decide +kernel
theorem dX3_writeNumber_0 : decode cX3_writeNumber 0 = .ok (.ldc_w 317, 3) := by decide +kernel
theorem dX3_writeNumber_3 : decode cX3_writeNumber 3 = .ok (.istore_n 2, 1) := by decide +kernel
theorem dX3_writeNumber_4 : decode cX3_writeNumber 4 = .ok (.iload_n 2, 1) := by decide +kernel
theorem dX3_writeNumber_5 : decode cX3_writeNumber 5 = .ok (.ifCond .le 34, 3) := by decide +kernel
theorem dX3_writeNumber_8 : decode cX3_writeNumber 8 = .ok (.iload_n 1, 1) := by decide +kernel
theorem dX3_writeNumber_9 : decode cX3_writeNumber 9 = .ok (.iload_n 2, 1) := by decide +kernel
theorem dX3_writeNumber_10 : decode cX3_writeNumber 10 = .ok (.if_icmp .ge 8, 3) := by decide +kernel
theorem dX3_writeNumber_13 : decode cX3_writeNumber 13 = .ok (.iload_n 2, 1) := by decide +kernel
theorem dX3_writeNumber_14 : decode cX3_writeNumber 14 = .ok (.iconst 1, 1) := by decide +kernel
theorem dX3_writeNumber_15 : decode cX3_writeNumber 15 = .ok (.if_icmp .ne 16, 3) := by decide +kernel
theorem dX3_writeNumber_18 : decode cX3_writeNumber 18 = .ok (.aload_n 0, 1) := by decide +kernel
theorem dX3_writeNumber_19 : decode cX3_writeNumber 19 = .ok (.bipush 48, 2) := by decide +kernel
theorem dX3_writeNumber_21 : decode cX3_writeNumber 21 = .ok (.iload_n 1, 1) := by decide +kernel
theorem dX3_writeNumber_22 : decode cX3_writeNumber 22 = .ok (.iload_n 2, 1) := by decide +kernel
theorem dX3_writeNumber_23 : decode cX3_writeNumber 23 = .ok (.idiv, 1) := by decide +kernel
theorem dX3_writeNumber_24 : decode cX3_writeNumber 24 = .ok (.bipush 10, 2) := by decide +kernel
theorem dX3_writeNumber_26 : decode cX3_writeNumber 26 = .ok (.irem, 1) := by decide +kernel
theorem dX3_writeNumber_27 : decode cX3_writeNumber 27 = .ok (.iadd, 1) := by decide +kernel
theorem dX3_writeNumber_28 : decode cX3_writeNumber 28 = .ok (.invokevirtual 308, 3) := by decide +kernel
theorem dX3_writeNumber_31 : decode cX3_writeNumber 31 = .ok (.iload_n 2, 1) := by decide +kernel
theorem dX3_writeNumber_32 : decode cX3_writeNumber 32 = .ok (.bipush 10, 2) := by decide +kernel
theorem dX3_writeNumber_34 : decode cX3_writeNumber 34 = .ok (.idiv, 1) := by decide +kernel
theorem dX3_writeNumber_35 : decode cX3_writeNumber 35 = .ok (.istore_n 2, 1) := by decide +kernel
theorem dX3_writeNumber_36 : decode cX3_writeNumber 36 = .ok (.goto (-32), 3) := by decide +kernel
theorem dX3_writeNumber_39 : decode cX3_writeNumber 39 = .ok (.return_, 1) := by decide +kernel
theorem dX3_writeByte_0 : decode cX3_writeByte 0 = .ok (.aload_n 0, 1) := by decide +kernel
theorem dX3_writeByte_1 : decode cX3_writeByte 1 = .ok (.getfield 299, 3) := by decide +kernel
theorem dX3_writeByte_4 : decode cX3_writeByte 4 = .ok (.ifCond .lt 36, 3) := by decide +kernel
theorem dX3_writeByte_7 : decode cX3_writeByte 7 = .ok (.aload_n 0, 1) := by decide +kernel
theorem dX3_writeByte_8 : decode cX3_writeByte 8 = .ok (.getfield 299, 3) := by decide +kernel
theorem dX3_writeByte_11 : decode cX3_writeByte 11 = .ok (.aload_n 0, 1) := by decide +kernel
theorem dX3_writeByte_12 : decode cX3_writeByte 12 = .ok (.getfield 9, 3) := by decide +kernel
theorem dX3_writeByte_15 : decode cX3_writeByte 15 = .ok (.arraylength, 1) := by decide +kernel
theorem dX3_writeByte_16 : decode cX3_writeByte 16 = .ok (.if_icmp .ge 24, 3) := by decide +kernel
theorem dX3_writeByte_19 : decode cX3_writeByte 19 = .ok (.aload_n 0, 1) := by decide +kernel
theorem dX3_writeByte_20 : decode cX3_writeByte 20 = .ok (.getfield 9, 3) := by decide +kernel
theorem dX3_writeByte_23 : decode cX3_writeByte 23 = .ok (.aload_n 0, 1) := by decide +kernel
theorem dX3_writeByte_24 : decode cX3_writeByte 24 = .ok (.getfield 299, 3) := by decide +kernel
theorem dX3_writeByte_27 : decode cX3_writeByte 27 = .ok (.iload_n 1, 1) := by decide +kernel
theorem dX3_writeByte_28 : decode cX3_writeByte 28 = .ok (.i2b, 1) := by decide +kernel
theorem dX3_writeByte_29 : decode cX3_writeByte 29 = .ok (.bastore, 1) := by decide +kernel
theorem dX3_writeByte_30 : decode cX3_writeByte 30 = .ok (.aload_n 0, 1) := by decide +kernel
theorem dX3_writeByte_31 : decode cX3_writeByte 31 = .ok (.dup, 1) := by decide +kernel
theorem dX3_writeByte_32 : decode cX3_writeByte 32 = .ok (.getfield 299, 3) := by decide +kernel
theorem dX3_writeByte_35 : decode cX3_writeByte 35 = .ok (.iconst 1, 1) := by decide +kernel
theorem dX3_writeByte_36 : decode cX3_writeByte 36 = .ok (.iadd, 1) := by decide +kernel
theorem dX3_writeByte_37 : decode cX3_writeByte 37 = .ok (.putfield 299, 3) := by decide +kernel
theorem dX3_writeByte_40 : decode cX3_writeByte 40 = .ok (.return_, 1) := by decide +kernel
theorem dX3_needChild_0 : decode cX3_needChild 0 = .ok (.iload_n 1, 1) := by decide +kernel
theorem dX3_needChild_1 : decode cX3_needChild 1 = .ok (.ifCond .lt 14, 3) := by decide +kernel
theorem dX3_needChild_4 : decode cX3_needChild 4 = .ok (.iload_n 1, 1) := by decide +kernel
theorem dX3_needChild_5 : decode cX3_needChild 5 = .ok (.aload_n 0, 1) := by decide +kernel
theorem dX3_needChild_6 : decode cX3_needChild 6 = .ok (.getfield 20, 3) := by decide +kernel
theorem dX3_needChild_9 : decode cX3_needChild 9 = .ok (.getfield 113, 3) := by decide +kernel
theorem dX3_needChild_12 : decode cX3_needChild 12 = .ok (.if_icmp .lt 14, 3) := by decide +kernel
theorem dX3_needChild_15 : decode cX3_needChild 15 = .ok (.new 91, 3) := by decide +kernel
theorem dX3_needChild_18 : decode cX3_needChild 18 = .ok (.dup, 1) := by decide +kernel
theorem dX3_needChild_19 : decode cX3_needChild 19 = .ok (.ldc_w 318, 3) := by decide +kernel
theorem dX3_needChild_22 : decode cX3_needChild 22 = .ok (.invokespecial 95, 3) := by decide +kernel
theorem dX3_needChild_25 : decode cX3_needChild 25 = .ok (.athrow, 1) := by decide +kernel
theorem dX3_needChild_26 : decode cX3_needChild 26 = .ok (.return_, 1) := by decide +kernel
theorem dX3_needGarden_0 : decode cX3_needGarden 0 = .ok (.iload_n 1, 1) := by decide +kernel
theorem dX3_needGarden_1 : decode cX3_needGarden 1 = .ok (.ifCond .lt 14, 3) := by decide +kernel
theorem dX3_needGarden_4 : decode cX3_needGarden 4 = .ok (.iload_n 1, 1) := by decide +kernel
theorem dX3_needGarden_5 : decode cX3_needGarden 5 = .ok (.aload_n 0, 1) := by decide +kernel
theorem dX3_needGarden_6 : decode cX3_needGarden 6 = .ok (.getfield 20, 3) := by decide +kernel
theorem dX3_needGarden_9 : decode cX3_needGarden 9 = .ok (.getfield 152, 3) := by decide +kernel
theorem dX3_needGarden_12 : decode cX3_needGarden 12 = .ok (.if_icmp .lt 14, 3) := by decide +kernel
theorem dX3_needGarden_15 : decode cX3_needGarden 15 = .ok (.new 91, 3) := by decide +kernel
theorem dX3_needGarden_18 : decode cX3_needGarden 18 = .ok (.dup, 1) := by decide +kernel
theorem dX3_needGarden_19 : decode cX3_needGarden 19 = .ok (.ldc_w 320, 3) := by decide +kernel
theorem dX3_needGarden_22 : decode cX3_needGarden 22 = .ok (.invokespecial 95, 3) := by decide +kernel
theorem dX3_needGarden_25 : decode cX3_needGarden 25 = .ok (.athrow, 1) := by decide +kernel
theorem dX3_needGarden_26 : decode cX3_needGarden 26 = .ok (.return_, 1) := by decide +kernel
theorem dX3_needSlot_0 : decode cX3_needSlot 0 = .ok (.iload_n 0, 1) := by decide +kernel
theorem dX3_needSlot_1 : decode cX3_needSlot 1 = .ok (.ifCond .lt 8, 3) := by decide +kernel
theorem dX3_needSlot_4 : decode cX3_needSlot 4 = .ok (.iload_n 0, 1) := by decide +kernel
theorem dX3_needSlot_5 : decode cX3_needSlot 5 = .ok (.iconst 2, 1) := by decide +kernel
theorem dX3_needSlot_6 : decode cX3_needSlot 6 = .ok (.if_icmp .lt 14, 3) := by decide +kernel
theorem dX3_needSlot_9 : decode cX3_needSlot 9 = .ok (.new 91, 3) := by decide +kernel
theorem dX3_needSlot_12 : decode cX3_needSlot 12 = .ok (.dup, 1) := by decide +kernel
theorem dX3_needSlot_13 : decode cX3_needSlot 13 = .ok (.ldc_w 322, 3) := by decide +kernel
theorem dX3_needSlot_16 : decode cX3_needSlot 16 = .ok (.invokespecial 95, 3) := by decide +kernel
theorem dX3_needSlot_19 : decode cX3_needSlot 19 = .ok (.athrow, 1) := by decide +kernel
theorem dX3_needSlot_20 : decode cX3_needSlot 20 = .ok (.return_, 1) := by decide +kernel
theorem dX3_needDate_0 : decode cX3_needDate 0 = .ok (.iload_n 0, 1) := by decide +kernel
theorem dX3_needDate_1 : decode cX3_needDate 1 = .ok (.iconst 1, 1) := by decide +kernel
theorem dX3_needDate_2 : decode cX3_needDate 2 = .ok (.if_icmp .lt 20, 3) := by decide +kernel
theorem dX3_needDate_5 : decode cX3_needDate 5 = .ok (.iload_n 0, 1) := by decide +kernel
theorem dX3_needDate_6 : decode cX3_needDate 6 = .ok (.bipush 12, 2) := by decide +kernel
theorem dX3_needDate_8 : decode cX3_needDate 8 = .ok (.if_icmp .gt 14, 3) := by decide +kernel
theorem dX3_needDate_11 : decode cX3_needDate 11 = .ok (.iload_n 1, 1) := by decide +kernel
theorem dX3_needDate_12 : decode cX3_needDate 12 = .ok (.iconst 1, 1) := by decide +kernel
theorem dX3_needDate_13 : decode cX3_needDate 13 = .ok (.if_icmp .lt 9, 3) := by decide +kernel
theorem dX3_needDate_16 : decode cX3_needDate 16 = .ok (.iload_n 1, 1) := by decide +kernel
theorem dX3_needDate_17 : decode cX3_needDate 17 = .ok (.bipush 30, 2) := by decide +kernel
theorem dX3_needDate_19 : decode cX3_needDate 19 = .ok (.if_icmp .le 13, 3) := by decide +kernel
theorem dX3_needDate_22 : decode cX3_needDate 22 = .ok (.new 105, 3) := by decide +kernel
theorem dX3_needDate_25 : decode cX3_needDate 25 = .ok (.dup, 1) := by decide +kernel
theorem dX3_needDate_26 : decode cX3_needDate 26 = .ok (.ldc 207, 2) := by decide +kernel
theorem dX3_needDate_28 : decode cX3_needDate 28 = .ok (.invokespecial 109, 3) := by decide +kernel
theorem dX3_needDate_31 : decode cX3_needDate 31 = .ok (.athrow, 1) := by decide +kernel
theorem dX3_needDate_32 : decode cX3_needDate 32 = .ok (.return_, 1) := by decide +kernel
theorem dX3_needKind_0 : decode cX3_needKind 0 = .ok (.iload_n 0, 1) := by decide +kernel
theorem dX3_needKind_1 : decode cX3_needKind 1 = .ok (.ifCond .lt 9, 3) := by decide +kernel
theorem dX3_needKind_4 : decode cX3_needKind 4 = .ok (.iload_n 0, 1) := by decide +kernel
theorem dX3_needKind_5 : decode cX3_needKind 5 = .ok (.bipush 6, 2) := by decide +kernel
theorem dX3_needKind_7 : decode cX3_needKind 7 = .ok (.if_icmp .lt 14, 3) := by decide +kernel
theorem dX3_needKind_10 : decode cX3_needKind 10 = .ok (.new 105, 3) := by decide +kernel
theorem dX3_needKind_13 : decode cX3_needKind 13 = .ok (.dup, 1) := by decide +kernel
theorem dX3_needKind_14 : decode cX3_needKind 14 = .ok (.ldc_w 324, 3) := by decide +kernel
theorem dX3_needKind_17 : decode cX3_needKind 17 = .ok (.invokespecial 109, 3) := by decide +kernel
theorem dX3_needKind_20 : decode cX3_needKind 20 = .ok (.athrow, 1) := by decide +kernel
theorem dX3_needKind_21 : decode cX3_needKind 21 = .ok (.return_, 1) := by decide +kernel
theorem dX3_needForecastDays_0 : decode cX3_needForecastDays 0 = .ok (.iload_n 0, 1) := by decide +kernel
theorem dX3_needForecastDays_1 : decode cX3_needForecastDays 1 = .ok (.ifCond .lt 10, 3) := by decide +kernel
theorem dX3_needForecastDays_4 : decode cX3_needForecastDays 4 = .ok (.iload_n 0, 1) := by decide +kernel
theorem dX3_needForecastDays_5 : decode cX3_needForecastDays 5 = .ok (.sipush 720, 3) := by decide +kernel
theorem dX3_needForecastDays_8 : decode cX3_needForecastDays 8 = .ok (.if_icmp .le 13, 3) := by decide +kernel
theorem dX3_needForecastDays_11 : decode cX3_needForecastDays 11 = .ok (.new 105, 3) := by decide +kernel
theorem dX3_needForecastDays_14 : decode cX3_needForecastDays 14 = .ok (.dup, 1) := by decide +kernel
theorem dX3_needForecastDays_15 : decode cX3_needForecastDays 15 = .ok (.ldc 247, 2) := by decide +kernel
theorem dX3_needForecastDays_17 : decode cX3_needForecastDays 17 = .ok (.invokespecial 109, 3) := by decide +kernel
theorem dX3_needForecastDays_20 : decode cX3_needForecastDays 20 = .ok (.athrow, 1) := by decide +kernel
theorem dX3_needForecastDays_21 : decode cX3_needForecastDays 21 = .ok (.return_, 1) := by decide +kernel
theorem dX3_dateOf_0 : decode cX3_dateOf 0 = .ok (.iload_n 0, 1) := by decide +kernel
theorem dX3_dateOf_1 : decode cX3_dateOf 1 = .ok (.iconst 1, 1) := by decide +kernel
theorem dX3_dateOf_2 : decode cX3_dateOf 2 = .ok (.isub, 1) := by decide +kernel
theorem dX3_dateOf_3 : decode cX3_dateOf 3 = .ok (.bipush 30, 2) := by decide +kernel
theorem dX3_dateOf_5 : decode cX3_dateOf 5 = .ok (.imul, 1) := by decide +kernel
theorem dX3_dateOf_6 : decode cX3_dateOf 6 = .ok (.iload_n 1, 1) := by decide +kernel
theorem dX3_dateOf_7 : decode cX3_dateOf 7 = .ok (.iadd, 1) := by decide +kernel
theorem dX3_dateOf_8 : decode cX3_dateOf 8 = .ok (.iconst 1, 1) := by decide +kernel
theorem dX3_dateOf_9 : decode cX3_dateOf 9 = .ok (.isub, 1) := by decide +kernel
theorem dX3_dateOf_10 : decode cX3_dateOf 10 = .ok (.ireturn, 1) := by decide +kernel
theorem dX3_monthAt_0 : decode cX3_monthAt 0 = .ok (.iload_n 0, 1) := by decide +kernel
theorem dX3_monthAt_1 : decode cX3_monthAt 1 = .ok (.bipush 30, 2) := by decide +kernel
theorem dX3_monthAt_3 : decode cX3_monthAt 3 = .ok (.idiv, 1) := by decide +kernel
theorem dX3_monthAt_4 : decode cX3_monthAt 4 = .ok (.iconst 1, 1) := by decide +kernel
theorem dX3_monthAt_5 : decode cX3_monthAt 5 = .ok (.iadd, 1) := by decide +kernel
theorem dX3_monthAt_6 : decode cX3_monthAt 6 = .ok (.ireturn, 1) := by decide +kernel
theorem dX3_dayAt_0 : decode cX3_dayAt 0 = .ok (.iload_n 0, 1) := by decide +kernel
theorem dX3_dayAt_1 : decode cX3_dayAt 1 = .ok (.bipush 30, 2) := by decide +kernel
theorem dX3_dayAt_3 : decode cX3_dayAt 3 = .ok (.irem, 1) := by decide +kernel
theorem dX3_dayAt_4 : decode cX3_dayAt 4 = .ok (.iconst 1, 1) := by decide +kernel
theorem dX3_dayAt_5 : decode cX3_dayAt 5 = .ok (.iadd, 1) := by decide +kernel
theorem dX3_dayAt_6 : decode cX3_dayAt 6 = .ok (.ireturn, 1) := by decide +kernel
theorem dX3_seedAfter_0 : decode cX3_seedAfter 0 = .ok (.iload_n 0, 1) := by decide +kernel
theorem dX3_seedAfter_1 : decode cX3_seedAfter 1 = .ok (.sipush 211, 3) := by decide +kernel
theorem dX3_seedAfter_4 : decode cX3_seedAfter 4 = .ok (.imul, 1) := by decide +kernel
theorem dX3_seedAfter_5 : decode cX3_seedAfter 5 = .ok (.bipush 97, 2) := by decide +kernel
theorem dX3_seedAfter_7 : decode cX3_seedAfter 7 = .ok (.iadd, 1) := by decide +kernel
theorem dX3_seedAfter_8 : decode cX3_seedAfter 8 = .ok (.sipush 9973, 3) := by decide +kernel
theorem dX3_seedAfter_11 : decode cX3_seedAfter 11 = .ok (.irem, 1) := by decide +kernel
theorem dX3_seedAfter_12 : decode cX3_seedAfter 12 = .ok (.ireturn, 1) := by decide +kernel
theorem dX3_cell_0 : decode cX3_cell 0 = .ok (.iload_n 1, 1) := by decide +kernel
theorem dX3_cell_1 : decode cX3_cell 1 = .ok (.ifCond .lt 15, 3) := by decide +kernel
theorem dX3_cell_4 : decode cX3_cell 4 = .ok (.iload_n 1, 1) := by decide +kernel
theorem dX3_cell_5 : decode cX3_cell 5 = .ok (.aload_n 0, 1) := by decide +kernel
theorem dX3_cell_6 : decode cX3_cell 6 = .ok (.arraylength, 1) := by decide +kernel
theorem dX3_cell_7 : decode cX3_cell 7 = .ok (.if_icmp .ge 9, 3) := by decide +kernel
theorem dX3_cell_10 : decode cX3_cell 10 = .ok (.aload_n 0, 1) := by decide +kernel
theorem dX3_cell_11 : decode cX3_cell 11 = .ok (.iload_n 1, 1) := by decide +kernel
theorem dX3_cell_12 : decode cX3_cell 12 = .ok (.iaload, 1) := by decide +kernel
theorem dX3_cell_13 : decode cX3_cell 13 = .ok (.goto 4, 3) := by decide +kernel
theorem dX3_cell_16 : decode cX3_cell 16 = .ok (.iconst 0, 1) := by decide +kernel
theorem dX3_cell_17 : decode cX3_cell 17 = .ok (.ireturn, 1) := by decide +kernel
theorem dX3_setCell_0 : decode cX3_setCell 0 = .ok (.iload_n 1, 1) := by decide +kernel
theorem dX3_setCell_1 : decode cX3_setCell 1 = .ok (.ifCond .lt 13, 3) := by decide +kernel
theorem dX3_setCell_4 : decode cX3_setCell 4 = .ok (.iload_n 1, 1) := by decide +kernel
theorem dX3_setCell_5 : decode cX3_setCell 5 = .ok (.aload_n 0, 1) := by decide +kernel
theorem dX3_setCell_6 : decode cX3_setCell 6 = .ok (.arraylength, 1) := by decide +kernel
theorem dX3_setCell_7 : decode cX3_setCell 7 = .ok (.if_icmp .ge 7, 3) := by decide +kernel
theorem dX3_setCell_10 : decode cX3_setCell 10 = .ok (.aload_n 0, 1) := by decide +kernel
theorem dX3_setCell_11 : decode cX3_setCell 11 = .ok (.iload_n 1, 1) := by decide +kernel
theorem dX3_setCell_12 : decode cX3_setCell 12 = .ok (.iload_n 2, 1) := by decide +kernel
theorem dX3_setCell_13 : decode cX3_setCell 13 = .ok (.iastore, 1) := by decide +kernel
theorem dX3_setCell_14 : decode cX3_setCell 14 = .ok (.return_, 1) := by decide +kernel
theorem dX3_addToCell_0 : decode cX3_addToCell 0 = .ok (.iload_n 1, 1) := by decide +kernel
theorem dX3_addToCell_1 : decode cX3_addToCell 1 = .ok (.ifCond .lt 16, 3) := by decide +kernel
theorem dX3_addToCell_4 : decode cX3_addToCell 4 = .ok (.iload_n 1, 1) := by decide +kernel
theorem dX3_addToCell_5 : decode cX3_addToCell 5 = .ok (.aload_n 0, 1) := by decide +kernel
theorem dX3_addToCell_6 : decode cX3_addToCell 6 = .ok (.arraylength, 1) := by decide +kernel
theorem dX3_addToCell_7 : decode cX3_addToCell 7 = .ok (.if_icmp .ge 10, 3) := by decide +kernel
theorem dX3_addToCell_10 : decode cX3_addToCell 10 = .ok (.aload_n 0, 1) := by decide +kernel
theorem dX3_addToCell_11 : decode cX3_addToCell 11 = .ok (.iload_n 1, 1) := by decide +kernel
theorem dX3_addToCell_12 : decode cX3_addToCell 12 = .ok (.dup2, 1) := by decide +kernel
theorem dX3_addToCell_13 : decode cX3_addToCell 13 = .ok (.iaload, 1) := by decide +kernel
theorem dX3_addToCell_14 : decode cX3_addToCell 14 = .ok (.iload_n 2, 1) := by decide +kernel
theorem dX3_addToCell_15 : decode cX3_addToCell 15 = .ok (.iadd, 1) := by decide +kernel
theorem dX3_addToCell_16 : decode cX3_addToCell 16 = .ok (.iastore, 1) := by decide +kernel
theorem dX3_addToCell_17 : decode cX3_addToCell 17 = .ok (.return_, 1) := by decide +kernel
theorem dX3_copyRow_0 : decode cX3_copyRow 0 = .ok (.aload_n 0, 1) := by decide +kernel
theorem dX3_copyRow_1 : decode cX3_copyRow 1 = .ok (.iconst 0, 1) := by decide +kernel
theorem dX3_copyRow_2 : decode cX3_copyRow 2 = .ok (.aload_n 1, 1) := by decide +kernel
theorem dX3_copyRow_3 : decode cX3_copyRow 3 = .ok (.iconst 0, 1) := by decide +kernel
theorem dX3_copyRow_4 : decode cX3_copyRow 4 = .ok (.aload_n 0, 1) := by decide +kernel
theorem dX3_copyRow_5 : decode cX3_copyRow 5 = .ok (.arraylength, 1) := by decide +kernel
theorem dX3_copyRow_6 : decode cX3_copyRow 6 = .ok (.aload_n 1, 1) := by decide +kernel
theorem dX3_copyRow_7 : decode cX3_copyRow 7 = .ok (.arraylength, 1) := by decide +kernel
theorem dX3_copyRow_8 : decode cX3_copyRow 8 = .ok (.invokestatic 326, 3) := by decide +kernel
theorem dX3_copyRow_11 : decode cX3_copyRow 11 = .ok (.invokestatic 331, 3) := by decide +kernel
theorem dX3_copyRow_14 : decode cX3_copyRow 14 = .ok (.return_, 1) := by decide +kernel
theorem dX3_sum_0 : decode cX3_sum 0 = .ok (.iconst 0, 1) := by decide +kernel
theorem dX3_sum_1 : decode cX3_sum 1 = .ok (.istore_n 2, 1) := by decide +kernel
theorem dX3_sum_2 : decode cX3_sum 2 = .ok (.iconst 0, 1) := by decide +kernel
theorem dX3_sum_3 : decode cX3_sum 3 = .ok (.istore_n 3, 1) := by decide +kernel
theorem dX3_sum_4 : decode cX3_sum 4 = .ok (.iload_n 3, 1) := by decide +kernel
theorem dX3_sum_5 : decode cX3_sum 5 = .ok (.iload_n 1, 1) := by decide +kernel
theorem dX3_sum_6 : decode cX3_sum 6 = .ok (.if_icmp .ge 21, 3) := by decide +kernel
theorem dX3_sum_9 : decode cX3_sum 9 = .ok (.iload_n 3, 1) := by decide +kernel
theorem dX3_sum_10 : decode cX3_sum 10 = .ok (.aload_n 0, 1) := by decide +kernel
theorem dX3_sum_11 : decode cX3_sum 11 = .ok (.arraylength, 1) := by decide +kernel
theorem dX3_sum_12 : decode cX3_sum 12 = .ok (.if_icmp .ge 15, 3) := by decide +kernel
theorem dX3_sum_15 : decode cX3_sum 15 = .ok (.iload_n 2, 1) := by decide +kernel
theorem dX3_sum_16 : decode cX3_sum 16 = .ok (.aload_n 0, 1) := by decide +kernel
theorem dX3_sum_17 : decode cX3_sum 17 = .ok (.iload_n 3, 1) := by decide +kernel
theorem dX3_sum_18 : decode cX3_sum 18 = .ok (.iaload, 1) := by decide +kernel
theorem dX3_sum_19 : decode cX3_sum 19 = .ok (.iadd, 1) := by decide +kernel
theorem dX3_sum_20 : decode cX3_sum 20 = .ok (.istore_n 2, 1) := by decide +kernel
theorem dX3_sum_21 : decode cX3_sum 21 = .ok (.iinc 3 1, 3) := by decide +kernel
theorem dX3_sum_24 : decode cX3_sum 24 = .ok (.goto (-20), 3) := by decide +kernel
theorem dX3_sum_27 : decode cX3_sum 27 = .ok (.iload_n 2, 1) := by decide +kernel
theorem dX3_sum_28 : decode cX3_sum 28 = .ok (.ireturn, 1) := by decide +kernel
theorem dX3_countOf_0 : decode cX3_countOf 0 = .ok (.iconst 0, 1) := by decide +kernel
theorem dX3_countOf_1 : decode cX3_countOf 1 = .ok (.istore_n 3, 1) := by decide +kernel
theorem dX3_countOf_2 : decode cX3_countOf 2 = .ok (.iconst 0, 1) := by decide +kernel
theorem dX3_countOf_3 : decode cX3_countOf 3 = .ok (.istore 4, 2) := by decide +kernel
theorem dX3_countOf_5 : decode cX3_countOf 5 = .ok (.iload 4, 2) := by decide +kernel
theorem dX3_countOf_7 : decode cX3_countOf 7 = .ok (.iload_n 2, 1) := by decide +kernel
theorem dX3_countOf_8 : decode cX3_countOf 8 = .ok (.if_icmp .ge 27, 3) := by decide +kernel
theorem dX3_countOf_11 : decode cX3_countOf 11 = .ok (.iload 4, 2) := by decide +kernel
theorem dX3_countOf_13 : decode cX3_countOf 13 = .ok (.aload_n 1, 1) := by decide +kernel
theorem dX3_countOf_14 : decode cX3_countOf 14 = .ok (.arraylength, 1) := by decide +kernel
theorem dX3_countOf_15 : decode cX3_countOf 15 = .ok (.if_icmp .ge 20, 3) := by decide +kernel
theorem dX3_countOf_18 : decode cX3_countOf 18 = .ok (.aload_n 1, 1) := by decide +kernel
theorem dX3_countOf_19 : decode cX3_countOf 19 = .ok (.iload 4, 2) := by decide +kernel
theorem dX3_countOf_21 : decode cX3_countOf 21 = .ok (.iaload, 1) := by decide +kernel
theorem dX3_countOf_22 : decode cX3_countOf 22 = .ok (.iload_n 0, 1) := by decide +kernel
theorem dX3_countOf_23 : decode cX3_countOf 23 = .ok (.if_icmp .ne 6, 3) := by decide +kernel
theorem dX3_countOf_26 : decode cX3_countOf 26 = .ok (.iinc 3 1, 3) := by decide +kernel
theorem dX3_countOf_29 : decode cX3_countOf 29 = .ok (.iinc 4 1, 3) := by decide +kernel
theorem dX3_countOf_32 : decode cX3_countOf 32 = .ok (.goto (-27), 3) := by decide +kernel
theorem dX3_countOf_35 : decode cX3_countOf 35 = .ok (.iload_n 3, 1) := by decide +kernel
theorem dX3_countOf_36 : decode cX3_countOf 36 = .ok (.ireturn, 1) := by decide +kernel
end
section
theorem dX4_init_0 : decode cX4_init 0 = .ok (.aload_n 0, 1) := by decide +kernel
theorem dX4_init_1 : decode cX4_init 1 = .ok (.invokespecial 1, 3) := by decide +kernel
theorem dX4_init_4 : decode cX4_init 4 = .ok (.aload_n 0, 1) := by decide +kernel
theorem dX4_init_5 : decode cX4_init 5 = .ok (.bipush 80, 2) := by decide +kernel
theorem dX4_init_7 : decode cX4_init 7 = .ok (.newarray .int, 2) := by decide +kernel
theorem dX4_init_9 : decode cX4_init 9 = .ok (.dup, 1) := by decide +kernel
theorem dX4_init_10 : decode cX4_init 10 = .ok (.iconst 0, 1) := by decide +kernel
theorem dX4_init_11 : decode cX4_init 11 = .ok (.bipush 114, 2) := by decide +kernel
theorem dX4_init_13 : decode cX4_init 13 = .ok (.iastore, 1) := by decide +kernel
theorem dX4_init_14 : decode cX4_init 14 = .ok (.dup, 1) := by decide +kernel
theorem dX4_init_15 : decode cX4_init 15 = .ok (.iconst 1, 1) := by decide +kernel
theorem dX4_init_16 : decode cX4_init 16 = .ok (.bipush 101, 2) := by decide +kernel
theorem dX4_init_18 : decode cX4_init 18 = .ok (.iastore, 1) := by decide +kernel
theorem dX4_init_19 : decode cX4_init 19 = .ok (.dup, 1) := by decide +kernel
theorem dX4_init_20 : decode cX4_init 20 = .ok (.iconst 2, 1) := by decide +kernel
theorem dX4_init_21 : decode cX4_init 21 = .ok (.bipush 103, 2) := by decide +kernel
theorem dX4_init_23 : decode cX4_init 23 = .ok (.iastore, 1) := by decide +kernel
theorem dX4_init_24 : decode cX4_init 24 = .ok (.dup, 1) := by decide +kernel
theorem dX4_init_25 : decode cX4_init 25 = .ok (.iconst 3, 1) := by decide +kernel
theorem dX4_init_26 : decode cX4_init 26 = .ok (.bipush 105, 2) := by decide +kernel
theorem dX4_init_28 : decode cX4_init 28 = .ok (.iastore, 1) := by decide +kernel
theorem dX4_init_29 : decode cX4_init 29 = .ok (.dup, 1) := by decide +kernel
theorem dX4_init_30 : decode cX4_init 30 = .ok (.iconst 4, 1) := by decide +kernel
theorem dX4_init_31 : decode cX4_init 31 = .ok (.bipush 115, 2) := by decide +kernel
theorem dX4_init_33 : decode cX4_init 33 = .ok (.iastore, 1) := by decide +kernel
theorem dX4_init_34 : decode cX4_init 34 = .ok (.dup, 1) := by decide +kernel
theorem dX4_init_35 : decode cX4_init 35 = .ok (.iconst 5, 1) := by decide +kernel
theorem dX4_init_36 : decode cX4_init 36 = .ok (.bipush 116, 2) := by decide +kernel
theorem dX4_init_38 : decode cX4_init 38 = .ok (.iastore, 1) := by decide +kernel
theorem dX4_init_39 : decode cX4_init 39 = .ok (.dup, 1) := by decide +kernel
theorem dX4_init_40 : decode cX4_init 40 = .ok (.bipush 6, 2) := by decide +kernel
theorem dX4_init_42 : decode cX4_init 42 = .ok (.bipush 114, 2) := by decide +kernel
theorem dX4_init_44 : decode cX4_init 44 = .ok (.iastore, 1) := by decide +kernel
theorem dX4_init_45 : decode cX4_init 45 = .ok (.dup, 1) := by decide +kernel
theorem dX4_init_46 : decode cX4_init 46 = .ok (.bipush 7, 2) := by decide +kernel
theorem dX4_init_48 : decode cX4_init 48 = .ok (.bipush 121, 2) := by decide +kernel
theorem dX4_init_50 : decode cX4_init 50 = .ok (.iastore, 1) := by decide +kernel
theorem dX4_init_51 : decode cX4_init 51 = .ok (.dup, 1) := by decide +kernel
theorem dX4_init_52 : decode cX4_init 52 = .ok (.bipush 8, 2) := by decide +kernel
theorem dX4_init_54 : decode cX4_init 54 = .ok (.bipush 103, 2) := by decide +kernel
theorem dX4_init_56 : decode cX4_init 56 = .ok (.iastore, 1) := by decide +kernel
theorem dX4_init_57 : decode cX4_init 57 = .ok (.dup, 1) := by decide +kernel
theorem dX4_init_58 : decode cX4_init 58 = .ok (.bipush 9, 2) := by decide +kernel
theorem dX4_init_60 : decode cX4_init 60 = .ok (.bipush 97, 2) := by decide +kernel
theorem dX4_init_62 : decode cX4_init 62 = .ok (.iastore, 1) := by decide +kernel
theorem dX4_init_63 : decode cX4_init 63 = .ok (.dup, 1) := by decide +kernel
theorem dX4_init_64 : decode cX4_init 64 = .ok (.bipush 10, 2) := by decide +kernel
theorem dX4_init_66 : decode cX4_init 66 = .ok (.bipush 114, 2) := by decide +kernel
theorem dX4_init_68 : decode cX4_init 68 = .ok (.iastore, 1) := by decide +kernel
theorem dX4_init_69 : decode cX4_init 69 = .ok (.dup, 1) := by decide +kernel
theorem dX4_init_70 : decode cX4_init 70 = .ok (.bipush 11, 2) := by decide +kernel
theorem dX4_init_72 : decode cX4_init 72 = .ok (.bipush 100, 2) := by decide +kernel
theorem dX4_init_74 : decode cX4_init 74 = .ok (.iastore, 1) := by decide +kernel
theorem dX4_init_75 : decode cX4_init 75 = .ok (.dup, 1) := by decide +kernel
theorem dX4_init_76 : decode cX4_init 76 = .ok (.bipush 12, 2) := by decide +kernel
theorem dX4_init_78 : decode cX4_init 78 = .ok (.bipush 101, 2) := by decide +kernel
theorem dX4_init_80 : decode cX4_init 80 = .ok (.iastore, 1) := by decide +kernel
theorem dX4_init_81 : decode cX4_init 81 = .ok (.dup, 1) := by decide +kernel
theorem dX4_init_82 : decode cX4_init 82 = .ok (.bipush 13, 2) := by decide +kernel
theorem dX4_init_84 : decode cX4_init 84 = .ok (.bipush 110, 2) := by decide +kernel
theorem dX4_init_86 : decode cX4_init 86 = .ok (.iastore, 1) := by decide +kernel
theorem dX4_init_87 : decode cX4_init 87 = .ok (.dup, 1) := by decide +kernel
theorem dX4_init_88 : decode cX4_init 88 = .ok (.bipush 14, 2) := by decide +kernel
theorem dX4_init_90 : decode cX4_init 90 = .ok (.iconst 0, 1) := by decide +kernel
theorem dX4_init_91 : decode cX4_init 91 = .ok (.iastore, 1) := by decide +kernel
theorem dX4_init_92 : decode cX4_init 92 = .ok (.dup, 1) := by decide +kernel
theorem dX4_init_93 : decode cX4_init 93 = .ok (.bipush 15, 2) := by decide +kernel
theorem dX4_init_95 : decode cX4_init 95 = .ok (.iconst 0, 1) := by decide +kernel
theorem dX4_init_96 : decode cX4_init 96 = .ok (.iastore, 1) := by decide +kernel
theorem dX4_init_97 : decode cX4_init 97 = .ok (.dup, 1) := by decide +kernel
theorem dX4_init_98 : decode cX4_init 98 = .ok (.bipush 16, 2) := by decide +kernel
theorem dX4_init_100 : decode cX4_init 100 = .ok (.bipush 99, 2) := by decide +kernel
theorem dX4_init_102 : decode cX4_init 102 = .ok (.iastore, 1) := by decide +kernel
theorem dX4_init_103 : decode cX4_init 103 = .ok (.dup, 1) := by decide +kernel
theorem dX4_init_104 : decode cX4_init 104 = .ok (.bipush 17, 2) := by decide +kernel
theorem dX4_init_106 : decode cX4_init 106 = .ok (.bipush 104, 2) := by decide +kernel
theorem dX4_init_108 : decode cX4_init 108 = .ok (.iastore, 1) := by decide +kernel
theorem dX4_init_109 : decode cX4_init 109 = .ok (.dup, 1) := by decide +kernel
theorem dX4_init_110 : decode cX4_init 110 = .ok (.bipush 18, 2) := by decide +kernel
theorem dX4_init_112 : decode cX4_init 112 = .ok (.bipush 105, 2) := by decide +kernel
theorem dX4_init_114 : decode cX4_init 114 = .ok (.iastore, 1) := by decide +kernel
theorem dX4_init_115 : decode cX4_init 115 = .ok (.dup, 1) := by decide +kernel
theorem dX4_init_116 : decode cX4_init 116 = .ok (.bipush 19, 2) := by decide +kernel
theorem dX4_init_118 : decode cX4_init 118 = .ok (.bipush 108, 2) := by decide +kernel
theorem dX4_init_120 : decode cX4_init 120 = .ok (.iastore, 1) := by decide +kernel
theorem dX4_init_121 : decode cX4_init 121 = .ok (.dup, 1) := by decide +kernel
theorem dX4_init_122 : decode cX4_init 122 = .ok (.bipush 20, 2) := by decide +kernel
theorem dX4_init_124 : decode cX4_init 124 = .ok (.bipush 100, 2) := by decide +kernel
theorem dX4_init_126 : decode cX4_init 126 = .ok (.iastore, 1) := by decide +kernel
theorem dX4_init_127 : decode cX4_init 127 = .ok (.dup, 1) := by decide +kernel
theorem dX4_init_128 : decode cX4_init 128 = .ok (.bipush 21, 2) := by decide +kernel
theorem dX4_init_130 : decode cX4_init 130 = .ok (.iconst 0, 1) := by decide +kernel
theorem dX4_init_131 : decode cX4_init 131 = .ok (.iastore, 1) := by decide +kernel
theorem dX4_init_132 : decode cX4_init 132 = .ok (.dup, 1) := by decide +kernel
theorem dX4_init_133 : decode cX4_init 133 = .ok (.bipush 22, 2) := by decide +kernel
theorem dX4_init_135 : decode cX4_init 135 = .ok (.iconst 0, 1) := by decide +kernel
theorem dX4_init_136 : decode cX4_init 136 = .ok (.iastore, 1) := by decide +kernel
theorem dX4_init_137 : decode cX4_init 137 = .ok (.dup, 1) := by decide +kernel
theorem dX4_init_138 : decode cX4_init 138 = .ok (.bipush 23, 2) := by decide +kernel
theorem dX4_init_140 : decode cX4_init 140 = .ok (.iconst 0, 1) := by decide +kernel
theorem dX4_init_141 : decode cX4_init 141 = .ok (.iastore, 1) := by decide +kernel
theorem dX4_init_142 : decode cX4_init 142 = .ok (.dup, 1) := by decide +kernel
theorem dX4_init_143 : decode cX4_init 143 = .ok (.bipush 24, 2) := by decide +kernel
theorem dX4_init_145 : decode cX4_init 145 = .ok (.bipush 98, 2) := by decide +kernel
theorem dX4_init_147 : decode cX4_init 147 = .ok (.iastore, 1) := by decide +kernel
theorem dX4_init_148 : decode cX4_init 148 = .ok (.dup, 1) := by decide +kernel
theorem dX4_init_149 : decode cX4_init 149 = .ok (.bipush 25, 2) := by decide +kernel
theorem dX4_init_151 : decode cX4_init 151 = .ok (.bipush 105, 2) := by decide +kernel
theorem dX4_init_153 : decode cX4_init 153 = .ok (.iastore, 1) := by decide +kernel
theorem dX4_init_154 : decode cX4_init 154 = .ok (.dup, 1) := by decide +kernel
theorem dX4_init_155 : decode cX4_init 155 = .ok (.bipush 26, 2) := by decide +kernel
theorem dX4_init_157 : decode cX4_init 157 = .ok (.bipush 114, 2) := by decide +kernel
theorem dX4_init_159 : decode cX4_init 159 = .ok (.iastore, 1) := by decide +kernel
theorem dX4_init_160 : decode cX4_init 160 = .ok (.dup, 1) := by decide +kernel
theorem dX4_init_161 : decode cX4_init 161 = .ok (.bipush 27, 2) := by decide +kernel
theorem dX4_init_163 : decode cX4_init 163 = .ok (.bipush 116, 2) := by decide +kernel
theorem dX4_init_165 : decode cX4_init 165 = .ok (.iastore, 1) := by decide +kernel
theorem dX4_init_166 : decode cX4_init 166 = .ok (.dup, 1) := by decide +kernel
theorem dX4_init_167 : decode cX4_init 167 = .ok (.bipush 28, 2) := by decide +kernel
theorem dX4_init_169 : decode cX4_init 169 = .ok (.bipush 104, 2) := by decide +kernel
theorem dX4_init_171 : decode cX4_init 171 = .ok (.iastore, 1) := by decide +kernel
theorem dX4_init_172 : decode cX4_init 172 = .ok (.dup, 1) := by decide +kernel
theorem dX4_init_173 : decode cX4_init 173 = .ok (.bipush 29, 2) := by decide +kernel
theorem dX4_init_175 : decode cX4_init 175 = .ok (.bipush 100, 2) := by decide +kernel
theorem dX4_init_177 : decode cX4_init 177 = .ok (.iastore, 1) := by decide +kernel
theorem dX4_init_178 : decode cX4_init 178 = .ok (.dup, 1) := by decide +kernel
theorem dX4_init_179 : decode cX4_init 179 = .ok (.bipush 30, 2) := by decide +kernel
theorem dX4_init_181 : decode cX4_init 181 = .ok (.bipush 97, 2) := by decide +kernel
theorem dX4_init_183 : decode cX4_init 183 = .ok (.iastore, 1) := by decide +kernel
theorem dX4_init_184 : decode cX4_init 184 = .ok (.dup, 1) := by decide +kernel
theorem dX4_init_185 : decode cX4_init 185 = .ok (.bipush 31, 2) := by decide +kernel
theorem dX4_init_187 : decode cX4_init 187 = .ok (.bipush 121, 2) := by decide +kernel
theorem dX4_init_189 : decode cX4_init 189 = .ok (.iastore, 1) := by decide +kernel
theorem dX4_init_190 : decode cX4_init 190 = .ok (.dup, 1) := by decide +kernel
theorem dX4_init_191 : decode cX4_init 191 = .ok (.bipush 32, 2) := by decide +kernel
theorem dX4_init_193 : decode cX4_init 193 = .ok (.bipush 100, 2) := by decide +kernel
theorem dX4_init_195 : decode cX4_init 195 = .ok (.iastore, 1) := by decide +kernel
theorem dX4_init_196 : decode cX4_init 196 = .ok (.dup, 1) := by decide +kernel
theorem dX4_init_197 : decode cX4_init 197 = .ok (.bipush 33, 2) := by decide +kernel
theorem dX4_init_199 : decode cX4_init 199 = .ok (.bipush 114, 2) := by decide +kernel
theorem dX4_init_201 : decode cX4_init 201 = .ok (.iastore, 1) := by decide +kernel
theorem dX4_init_202 : decode cX4_init 202 = .ok (.dup, 1) := by decide +kernel
theorem dX4_init_203 : decode cX4_init 203 = .ok (.bipush 34, 2) := by decide +kernel
theorem dX4_init_205 : decode cX4_init 205 = .ok (.bipush 97, 2) := by decide +kernel
theorem dX4_init_207 : decode cX4_init 207 = .ok (.iastore, 1) := by decide +kernel
theorem dX4_init_208 : decode cX4_init 208 = .ok (.dup, 1) := by decide +kernel
theorem dX4_init_209 : decode cX4_init 209 = .ok (.bipush 35, 2) := by decide +kernel
theorem dX4_init_211 : decode cX4_init 211 = .ok (.bipush 119, 2) := by decide +kernel
theorem dX4_init_213 : decode cX4_init 213 = .ok (.iastore, 1) := by decide +kernel
theorem dX4_init_214 : decode cX4_init 214 = .ok (.dup, 1) := by decide +kernel
theorem dX4_init_215 : decode cX4_init 215 = .ok (.bipush 36, 2) := by decide +kernel
theorem dX4_init_217 : decode cX4_init 217 = .ok (.iconst 0, 1) := by decide +kernel
theorem dX4_init_218 : decode cX4_init 218 = .ok (.iastore, 1) := by decide +kernel
theorem dX4_init_219 : decode cX4_init 219 = .ok (.dup, 1) := by decide +kernel
theorem dX4_init_220 : decode cX4_init 220 = .ok (.bipush 37, 2) := by decide +kernel
theorem dX4_init_222 : decode cX4_init 222 = .ok (.iconst 0, 1) := by decide +kernel
theorem dX4_init_223 : decode cX4_init 223 = .ok (.iastore, 1) := by decide +kernel
theorem dX4_init_224 : decode cX4_init 224 = .ok (.dup, 1) := by decide +kernel
theorem dX4_init_225 : decode cX4_init 225 = .ok (.bipush 38, 2) := by decide +kernel
theorem dX4_init_227 : decode cX4_init 227 = .ok (.iconst 0, 1) := by decide +kernel
theorem dX4_init_228 : decode cX4_init 228 = .ok (.iastore, 1) := by decide +kernel
theorem dX4_init_229 : decode cX4_init 229 = .ok (.dup, 1) := by decide +kernel
theorem dX4_init_230 : decode cX4_init 230 = .ok (.bipush 39, 2) := by decide +kernel
theorem dX4_init_232 : decode cX4_init 232 = .ok (.iconst 0, 1) := by decide +kernel
theorem dX4_init_233 : decode cX4_init 233 = .ok (.iastore, 1) := by decide +kernel
theorem dX4_init_234 : decode cX4_init 234 = .ok (.dup, 1) := by decide +kernel
theorem dX4_init_235 : decode cX4_init 235 = .ok (.bipush 40, 2) := by decide +kernel
theorem dX4_init_237 : decode cX4_init 237 = .ok (.bipush 99, 2) := by decide +kernel
theorem dX4_init_239 : decode cX4_init 239 = .ok (.iastore, 1) := by decide +kernel
theorem dX4_init_240 : decode cX4_init 240 = .ok (.dup, 1) := by decide +kernel
theorem dX4_init_241 : decode cX4_init 241 = .ok (.bipush 41, 2) := by decide +kernel
theorem dX4_init_243 : decode cX4_init 243 = .ok (.bipush 97, 2) := by decide +kernel
theorem dX4_init_245 : decode cX4_init 245 = .ok (.iastore, 1) := by decide +kernel
theorem dX4_init_246 : decode cX4_init 246 = .ok (.dup, 1) := by decide +kernel
theorem dX4_init_247 : decode cX4_init 247 = .ok (.bipush 42, 2) := by decide +kernel
theorem dX4_init_249 : decode cX4_init 249 = .ok (.bipush 107, 2) := by decide +kernel
theorem dX4_init_251 : decode cX4_init 251 = .ok (.iastore, 1) := by decide +kernel
theorem dX4_init_252 : decode cX4_init 252 = .ok (.dup, 1) := by decide +kernel
theorem dX4_init_253 : decode cX4_init 253 = .ok (.bipush 43, 2) := by decide +kernel
theorem dX4_init_255 : decode cX4_init 255 = .ok (.bipush 101, 2) := by decide +kernel
theorem dX4_init_257 : decode cX4_init 257 = .ok (.iastore, 1) := by decide +kernel
theorem dX4_init_258 : decode cX4_init 258 = .ok (.dup, 1) := by decide +kernel
theorem dX4_init_259 : decode cX4_init 259 = .ok (.bipush 44, 2) := by decide +kernel
theorem dX4_init_261 : decode cX4_init 261 = .ok (.bipush 115, 2) := by decide +kernel
theorem dX4_init_263 : decode cX4_init 263 = .ok (.iastore, 1) := by decide +kernel
theorem dX4_init_264 : decode cX4_init 264 = .ok (.dup, 1) := by decide +kernel
theorem dX4_init_265 : decode cX4_init 265 = .ok (.bipush 45, 2) := by decide +kernel
theorem dX4_init_267 : decode cX4_init 267 = .ok (.iconst 0, 1) := by decide +kernel
theorem dX4_init_268 : decode cX4_init 268 = .ok (.iastore, 1) := by decide +kernel
theorem dX4_init_269 : decode cX4_init 269 = .ok (.dup, 1) := by decide +kernel
theorem dX4_init_270 : decode cX4_init 270 = .ok (.bipush 46, 2) := by decide +kernel
theorem dX4_init_272 : decode cX4_init 272 = .ok (.iconst 0, 1) := by decide +kernel
theorem dX4_init_273 : decode cX4_init 273 = .ok (.iastore, 1) := by decide +kernel
theorem dX4_init_274 : decode cX4_init 274 = .ok (.dup, 1) := by decide +kernel
theorem dX4_init_275 : decode cX4_init 275 = .ok (.bipush 47, 2) := by decide +kernel
theorem dX4_init_277 : decode cX4_init 277 = .ok (.iconst 0, 1) := by decide +kernel
theorem dX4_init_278 : decode cX4_init 278 = .ok (.iastore, 1) := by decide +kernel
theorem dX4_init_279 : decode cX4_init 279 = .ok (.dup, 1) := by decide +kernel
theorem dX4_init_280 : decode cX4_init 280 = .ok (.bipush 48, 2) := by decide +kernel
theorem dX4_init_282 : decode cX4_init 282 = .ok (.bipush 100, 2) := by decide +kernel
theorem dX4_init_284 : decode cX4_init 284 = .ok (.iastore, 1) := by decide +kernel
theorem dX4_init_285 : decode cX4_init 285 = .ok (.dup, 1) := by decide +kernel
theorem dX4_init_286 : decode cX4_init 286 = .ok (.bipush 49, 2) := by decide +kernel
theorem dX4_init_288 : decode cX4_init 288 = .ok (.bipush 97, 2) := by decide +kernel
theorem dX4_init_290 : decode cX4_init 290 = .ok (.iastore, 1) := by decide +kernel
theorem dX4_init_291 : decode cX4_init 291 = .ok (.dup, 1) := by decide +kernel
theorem dX4_init_292 : decode cX4_init 292 = .ok (.bipush 50, 2) := by decide +kernel
theorem dX4_init_294 : decode cX4_init 294 = .ok (.bipush 121, 2) := by decide +kernel
theorem dX4_init_296 : decode cX4_init 296 = .ok (.iastore, 1) := by decide +kernel
theorem dX4_init_297 : decode cX4_init 297 = .ok (.dup, 1) := by decide +kernel
theorem dX4_init_298 : decode cX4_init 298 = .ok (.bipush 51, 2) := by decide +kernel
theorem dX4_init_300 : decode cX4_init 300 = .ok (.bipush 115, 2) := by decide +kernel
theorem dX4_init_302 : decode cX4_init 302 = .ok (.iastore, 1) := by decide +kernel
theorem dX4_init_303 : decode cX4_init 303 = .ok (.dup, 1) := by decide +kernel
theorem dX4_init_304 : decode cX4_init 304 = .ok (.bipush 52, 2) := by decide +kernel
theorem dX4_init_306 : decode cX4_init 306 = .ok (.iconst 0, 1) := by decide +kernel
theorem dX4_init_307 : decode cX4_init 307 = .ok (.iastore, 1) := by decide +kernel
theorem dX4_init_308 : decode cX4_init 308 = .ok (.dup, 1) := by decide +kernel
theorem dX4_init_309 : decode cX4_init 309 = .ok (.bipush 53, 2) := by decide +kernel
theorem dX4_init_311 : decode cX4_init 311 = .ok (.iconst 0, 1) := by decide +kernel
theorem dX4_init_312 : decode cX4_init 312 = .ok (.iastore, 1) := by decide +kernel
theorem dX4_init_313 : decode cX4_init 313 = .ok (.dup, 1) := by decide +kernel
theorem dX4_init_314 : decode cX4_init 314 = .ok (.bipush 54, 2) := by decide +kernel
theorem dX4_init_316 : decode cX4_init 316 = .ok (.iconst 0, 1) := by decide +kernel
theorem dX4_init_317 : decode cX4_init 317 = .ok (.iastore, 1) := by decide +kernel
theorem dX4_init_318 : decode cX4_init 318 = .ok (.dup, 1) := by decide +kernel
theorem dX4_init_319 : decode cX4_init 319 = .ok (.bipush 55, 2) := by decide +kernel
theorem dX4_init_321 : decode cX4_init 321 = .ok (.iconst 0, 1) := by decide +kernel
theorem dX4_init_322 : decode cX4_init 322 = .ok (.iastore, 1) := by decide +kernel
theorem dX4_init_323 : decode cX4_init 323 = .ok (.dup, 1) := by decide +kernel
theorem dX4_init_324 : decode cX4_init 324 = .ok (.bipush 56, 2) := by decide +kernel
theorem dX4_init_326 : decode cX4_init 326 = .ok (.bipush 97, 2) := by decide +kernel
theorem dX4_init_328 : decode cX4_init 328 = .ok (.iastore, 1) := by decide +kernel
theorem dX4_init_329 : decode cX4_init 329 = .ok (.dup, 1) := by decide +kernel
theorem dX4_init_330 : decode cX4_init 330 = .ok (.bipush 57, 2) := by decide +kernel
theorem dX4_init_332 : decode cX4_init 332 = .ok (.bipush 100, 2) := by decide +kernel
theorem dX4_init_334 : decode cX4_init 334 = .ok (.iastore, 1) := by decide +kernel
theorem dX4_init_335 : decode cX4_init 335 = .ok (.dup, 1) := by decide +kernel
theorem dX4_init_336 : decode cX4_init 336 = .ok (.bipush 58, 2) := by decide +kernel
theorem dX4_init_338 : decode cX4_init 338 = .ok (.bipush 97, 2) := by decide +kernel
theorem dX4_init_340 : decode cX4_init 340 = .ok (.iastore, 1) := by decide +kernel
theorem dX4_init_341 : decode cX4_init 341 = .ok (.dup, 1) := by decide +kernel
theorem dX4_init_342 : decode cX4_init 342 = .ok (.bipush 59, 2) := by decide +kernel
theorem dX4_init_344 : decode cX4_init 344 = .ok (.iconst 0, 1) := by decide +kernel
theorem dX4_init_345 : decode cX4_init 345 = .ok (.iastore, 1) := by decide +kernel
theorem dX4_init_346 : decode cX4_init 346 = .ok (.dup, 1) := by decide +kernel
theorem dX4_init_347 : decode cX4_init 347 = .ok (.bipush 60, 2) := by decide +kernel
theorem dX4_init_349 : decode cX4_init 349 = .ok (.iconst 0, 1) := by decide +kernel
theorem dX4_init_350 : decode cX4_init 350 = .ok (.iastore, 1) := by decide +kernel
theorem dX4_init_351 : decode cX4_init 351 = .ok (.dup, 1) := by decide +kernel
theorem dX4_init_352 : decode cX4_init 352 = .ok (.bipush 61, 2) := by decide +kernel
theorem dX4_init_354 : decode cX4_init 354 = .ok (.iconst 0, 1) := by decide +kernel
theorem dX4_init_355 : decode cX4_init 355 = .ok (.iastore, 1) := by decide +kernel
theorem dX4_init_356 : decode cX4_init 356 = .ok (.dup, 1) := by decide +kernel
theorem dX4_init_357 : decode cX4_init 357 = .ok (.bipush 62, 2) := by decide +kernel
theorem dX4_init_359 : decode cX4_init 359 = .ok (.iconst 0, 1) := by decide +kernel
theorem dX4_init_360 : decode cX4_init 360 = .ok (.iastore, 1) := by decide +kernel
theorem dX4_init_361 : decode cX4_init 361 = .ok (.dup, 1) := by decide +kernel
theorem dX4_init_362 : decode cX4_init 362 = .ok (.bipush 63, 2) := by decide +kernel
theorem dX4_init_364 : decode cX4_init 364 = .ok (.iconst 0, 1) := by decide +kernel
theorem dX4_init_365 : decode cX4_init 365 = .ok (.iastore, 1) := by decide +kernel
theorem dX4_init_366 : decode cX4_init 366 = .ok (.dup, 1) := by decide +kernel
theorem dX4_init_367 : decode cX4_init 367 = .ok (.bipush 64, 2) := by decide +kernel
theorem dX4_init_369 : decode cX4_init 369 = .ok (.bipush 98, 2) := by decide +kernel
theorem dX4_init_371 : decode cX4_init 371 = .ok (.iastore, 1) := by decide +kernel
theorem dX4_init_372 : decode cX4_init 372 = .ok (.dup, 1) := by decide +kernel
theorem dX4_init_373 : decode cX4_init 373 = .ok (.bipush 65, 2) := by decide +kernel
theorem dX4_init_375 : decode cX4_init 375 = .ok (.bipush 101, 2) := by decide +kernel
theorem dX4_init_377 : decode cX4_init 377 = .ok (.iastore, 1) := by decide +kernel
theorem dX4_init_378 : decode cX4_init 378 = .ok (.dup, 1) := by decide +kernel
theorem dX4_init_379 : decode cX4_init 379 = .ok (.bipush 66, 2) := by decide +kernel
theorem dX4_init_381 : decode cX4_init 381 = .ok (.bipush 110, 2) := by decide +kernel
theorem dX4_init_383 : decode cX4_init 383 = .ok (.iastore, 1) := by decide +kernel
theorem dX4_init_384 : decode cX4_init 384 = .ok (.dup, 1) := by decide +kernel
theorem dX4_init_385 : decode cX4_init 385 = .ok (.bipush 67, 2) := by decide +kernel
theorem dX4_init_387 : decode cX4_init 387 = .ok (.iconst 0, 1) := by decide +kernel
theorem dX4_init_388 : decode cX4_init 388 = .ok (.iastore, 1) := by decide +kernel
theorem dX4_init_389 : decode cX4_init 389 = .ok (.dup, 1) := by decide +kernel
theorem dX4_init_390 : decode cX4_init 390 = .ok (.bipush 68, 2) := by decide +kernel
theorem dX4_init_392 : decode cX4_init 392 = .ok (.iconst 0, 1) := by decide +kernel
theorem dX4_init_393 : decode cX4_init 393 = .ok (.iastore, 1) := by decide +kernel
theorem dX4_init_394 : decode cX4_init 394 = .ok (.dup, 1) := by decide +kernel
theorem dX4_init_395 : decode cX4_init 395 = .ok (.bipush 69, 2) := by decide +kernel
theorem dX4_init_397 : decode cX4_init 397 = .ok (.iconst 0, 1) := by decide +kernel
theorem dX4_init_398 : decode cX4_init 398 = .ok (.iastore, 1) := by decide +kernel
theorem dX4_init_399 : decode cX4_init 399 = .ok (.dup, 1) := by decide +kernel
theorem dX4_init_400 : decode cX4_init 400 = .ok (.bipush 70, 2) := by decide +kernel
theorem dX4_init_402 : decode cX4_init 402 = .ok (.iconst 0, 1) := by decide +kernel
theorem dX4_init_403 : decode cX4_init 403 = .ok (.iastore, 1) := by decide +kernel
theorem dX4_init_404 : decode cX4_init 404 = .ok (.dup, 1) := by decide +kernel
theorem dX4_init_405 : decode cX4_init 405 = .ok (.bipush 71, 2) := by decide +kernel
theorem dX4_init_407 : decode cX4_init 407 = .ok (.iconst 0, 1) := by decide +kernel
theorem dX4_init_408 : decode cX4_init 408 = .ok (.iastore, 1) := by decide +kernel
theorem dX4_init_409 : decode cX4_init 409 = .ok (.dup, 1) := by decide +kernel
theorem dX4_init_410 : decode cX4_init 410 = .ok (.bipush 72, 2) := by decide +kernel
theorem dX4_init_412 : decode cX4_init 412 = .ok (.bipush 99, 2) := by decide +kernel
theorem dX4_init_414 : decode cX4_init 414 = .ok (.iastore, 1) := by decide +kernel
theorem dX4_init_415 : decode cX4_init 415 = .ok (.dup, 1) := by decide +kernel
theorem dX4_init_416 : decode cX4_init 416 = .ok (.bipush 73, 2) := by decide +kernel
theorem dX4_init_418 : decode cX4_init 418 = .ok (.bipush 108, 2) := by decide +kernel
theorem dX4_init_420 : decode cX4_init 420 = .ok (.iastore, 1) := by decide +kernel
theorem dX4_init_421 : decode cX4_init 421 = .ok (.dup, 1) := by decide +kernel
theorem dX4_init_422 : decode cX4_init 422 = .ok (.bipush 74, 2) := by decide +kernel
theorem dX4_init_424 : decode cX4_init 424 = .ok (.bipush 101, 2) := by decide +kernel
theorem dX4_init_426 : decode cX4_init 426 = .ok (.iastore, 1) := by decide +kernel
theorem dX4_init_427 : decode cX4_init 427 = .ok (.dup, 1) := by decide +kernel
theorem dX4_init_428 : decode cX4_init 428 = .ok (.bipush 75, 2) := by decide +kernel
theorem dX4_init_430 : decode cX4_init 430 = .ok (.bipush 111, 2) := by decide +kernel
theorem dX4_init_432 : decode cX4_init 432 = .ok (.iastore, 1) := by decide +kernel
theorem dX4_init_433 : decode cX4_init 433 = .ok (.dup, 1) := by decide +kernel
theorem dX4_init_434 : decode cX4_init 434 = .ok (.bipush 76, 2) := by decide +kernel
theorem dX4_init_436 : decode cX4_init 436 = .ok (.iconst 0, 1) := by decide +kernel
theorem dX4_init_437 : decode cX4_init 437 = .ok (.iastore, 1) := by decide +kernel
theorem dX4_init_438 : decode cX4_init 438 = .ok (.dup, 1) := by decide +kernel
theorem dX4_init_439 : decode cX4_init 439 = .ok (.bipush 77, 2) := by decide +kernel
theorem dX4_init_441 : decode cX4_init 441 = .ok (.iconst 0, 1) := by decide +kernel
theorem dX4_init_442 : decode cX4_init 442 = .ok (.iastore, 1) := by decide +kernel
theorem dX4_init_443 : decode cX4_init 443 = .ok (.dup, 1) := by decide +kernel
theorem dX4_init_444 : decode cX4_init 444 = .ok (.bipush 78, 2) := by decide +kernel
theorem dX4_init_446 : decode cX4_init 446 = .ok (.iconst 0, 1) := by decide +kernel
theorem dX4_init_447 : decode cX4_init 447 = .ok (.iastore, 1) := by decide +kernel
theorem dX4_init_448 : decode cX4_init 448 = .ok (.dup, 1) := by decide +kernel
theorem dX4_init_449 : decode cX4_init 449 = .ok (.bipush 79, 2) := by decide +kernel
theorem dX4_init_451 : decode cX4_init 451 = .ok (.iconst 0, 1) := by decide +kernel
theorem dX4_init_452 : decode cX4_init 452 = .ok (.iastore, 1) := by decide +kernel
theorem dX4_init_453 : decode cX4_init 453 = .ok (.putfield 7, 3) := by decide +kernel
theorem dX4_init_456 : decode cX4_init 456 = .ok (.aload_n 0, 1) := by decide +kernel
theorem dX4_init_457 : decode cX4_init 457 = .ok (.sipush 151, 3) := by decide +kernel
theorem dX4_init_460 : decode cX4_init 460 = .ok (.newarray .int, 2) := by decide +kernel
theorem dX4_init_462 : decode cX4_init 462 = .ok (.putfield 13, 3) := by decide +kernel
theorem dX4_init_465 : decode cX4_init 465 = .ok (.aload_n 0, 1) := by decide +kernel
theorem dX4_init_466 : decode cX4_init 466 = .ok (.sipush 151, 3) := by decide +kernel
theorem dX4_init_469 : decode cX4_init 469 = .ok (.newarray .int, 2) := by decide +kernel
theorem dX4_init_471 : decode cX4_init 471 = .ok (.putfield 16, 3) := by decide +kernel
theorem dX4_init_474 : decode cX4_init 474 = .ok (.aload_n 0, 1) := by decide +kernel
theorem dX4_init_475 : decode cX4_init 475 = .ok (.sipush 1510, 3) := by decide +kernel
theorem dX4_init_478 : decode cX4_init 478 = .ok (.newarray .int, 2) := by decide +kernel
theorem dX4_init_480 : decode cX4_init 480 = .ok (.putfield 19, 3) := by decide +kernel
theorem dX4_init_483 : decode cX4_init 483 = .ok (.aload_n 0, 1) := by decide +kernel
theorem dX4_init_484 : decode cX4_init 484 = .ok (.sipush 302, 3) := by decide +kernel
theorem dX4_init_487 : decode cX4_init 487 = .ok (.newarray .int, 2) := by decide +kernel
theorem dX4_init_489 : decode cX4_init 489 = .ok (.putfield 22, 3) := by decide +kernel
theorem dX4_init_492 : decode cX4_init 492 = .ok (.aload_n 0, 1) := by decide +kernel
theorem dX4_init_493 : decode cX4_init 493 = .ok (.bipush 6, 2) := by decide +kernel
theorem dX4_init_495 : decode cX4_init 495 = .ok (.newarray .int, 2) := by decide +kernel
theorem dX4_init_497 : decode cX4_init 497 = .ok (.putfield 25, 3) := by decide +kernel
theorem dX4_init_500 : decode cX4_init 500 = .ok (.aload_n 0, 1) := by decide +kernel
theorem dX4_init_501 : decode cX4_init 501 = .ok (.sipush 600, 3) := by decide +kernel
theorem dX4_init_504 : decode cX4_init 504 = .ok (.newarray .byte, 2) := by decide +kernel
theorem dX4_init_506 : decode cX4_init 506 = .ok (.putfield 28, 3) := by decide +kernel
theorem dX4_init_509 : decode cX4_init 509 = .ok (.aload_n 0, 1) := by decide +kernel
theorem dX4_init_510 : decode cX4_init 510 = .ok (.bipush 40, 2) := by decide +kernel
theorem dX4_init_512 : decode cX4_init 512 = .ok (.newarray .byte, 2) := by decide +kernel
theorem dX4_init_514 : decode cX4_init 514 = .ok (.putfield 32, 3) := by decide +kernel
theorem dX4_init_517 : decode cX4_init 517 = .ok (.aload_n 0, 1) := by decide +kernel
theorem dX4_init_518 : decode cX4_init 518 = .ok (.iconst (-1), 1) := by decide +kernel
theorem dX4_init_519 : decode cX4_init 519 = .ok (.putfield 35, 3) := by decide +kernel
theorem dX4_init_522 : decode cX4_init 522 = .ok (.aload_n 0, 1) := by decide +kernel
theorem dX4_init_523 : decode cX4_init 523 = .ok (.getfield 13, 3) := by decide +kernel
theorem dX4_init_526 : decode cX4_init 526 = .ok (.iconst 2, 1) := by decide +kernel
theorem dX4_init_527 : decode cX4_init 527 = .ok (.bipush 7, 2) := by decide +kernel
theorem dX4_init_529 : decode cX4_init 529 = .ok (.iastore, 1) := by decide +kernel
theorem dX4_init_530 : decode cX4_init 530 = .ok (.aload_n 0, 1) := by decide +kernel
theorem dX4_init_531 : decode cX4_init 531 = .ok (.getfield 13, 3) := by decide +kernel
theorem dX4_init_534 : decode cX4_init 534 = .ok (.iconst 3, 1) := by decide +kernel
theorem dX4_init_535 : decode cX4_init 535 = .ok (.bipush 12, 2) := by decide +kernel
theorem dX4_init_537 : decode cX4_init 537 = .ok (.iastore, 1) := by decide +kernel
theorem dX4_init_538 : decode cX4_init 538 = .ok (.aload_n 0, 1) := by decide +kernel
theorem dX4_init_539 : decode cX4_init 539 = .ok (.getfield 13, 3) := by decide +kernel
theorem dX4_init_542 : decode cX4_init 542 = .ok (.bipush 6, 2) := by decide +kernel
theorem dX4_init_544 : decode cX4_init 544 = .ok (.bipush 12, 2) := by decide +kernel
theorem dX4_init_546 : decode cX4_init 546 = .ok (.iastore, 1) := by decide +kernel
theorem dX4_init_547 : decode cX4_init 547 = .ok (.aload_n 0, 1) := by decide +kernel
theorem dX4_init_548 : decode cX4_init 548 = .ok (.iconst 4, 1) := by decide +kernel
theorem dX4_init_549 : decode cX4_init 549 = .ok (.invokevirtual 39, 3) := by decide +kernel
theorem dX4_init_552 : decode cX4_init 552 = .ok (.aload_n 0, 1) := by decide +kernel
theorem dX4_init_553 : decode cX4_init 553 = .ok (.iconst 2, 1) := by decide +kernel
theorem dX4_init_554 : decode cX4_init 554 = .ok (.invokevirtual 39, 3) := by decide +kernel
theorem dX4_init_557 : decode cX4_init 557 = .ok (.aload_n 0, 1) := by decide +kernel
theorem dX4_init_558 : decode cX4_init 558 = .ok (.bipush 7, 2) := by decide +kernel
theorem dX4_init_560 : decode cX4_init 560 = .ok (.invokevirtual 43, 3) := by decide +kernel
theorem dX4_init_563 : decode cX4_init 563 = .ok (.aload_n 0, 1) := by decide +kernel
theorem dX4_init_564 : decode cX4_init 564 = .ok (.iconst 2, 1) := by decide +kernel
theorem dX4_init_565 : decode cX4_init 565 = .ok (.iconst 3, 1) := by decide +kernel
theorem dX4_init_566 : decode cX4_init 566 = .ok (.iconst 4, 1) := by decide +kernel
theorem dX4_init_567 : decode cX4_init 567 = .ok (.iconst 0, 1) := by decide +kernel
theorem dX4_init_568 : decode cX4_init 568 = .ok (.invokevirtual 46, 3) := by decide +kernel
theorem dX4_init_571 : decode cX4_init 571 = .ok (.aload_n 0, 1) := by decide +kernel
theorem dX4_init_572 : decode cX4_init 572 = .ok (.bipush 8, 2) := by decide +kernel
theorem dX4_init_574 : decode cX4_init 574 = .ok (.invokevirtual 43, 3) := by decide +kernel
theorem dX4_init_577 : decode cX4_init 577 = .ok (.aload_n 0, 1) := by decide +kernel
theorem dX4_init_578 : decode cX4_init 578 = .ok (.iconst 2, 1) := by decide +kernel
theorem dX4_init_579 : decode cX4_init 579 = .ok (.bipush 9, 2) := by decide +kernel
theorem dX4_init_581 : decode cX4_init 581 = .ok (.iconst 1, 1) := by decide +kernel
theorem dX4_init_582 : decode cX4_init 582 = .ok (.iconst 0, 1) := by decide +kernel
theorem dX4_init_583 : decode cX4_init 583 = .ok (.invokevirtual 46, 3) := by decide +kernel
theorem dX4_init_586 : decode cX4_init 586 = .ok (.aload_n 0, 1) := by decide +kernel
theorem dX4_init_587 : decode cX4_init 587 = .ok (.bipush 9, 2) := by decide +kernel
theorem dX4_init_589 : decode cX4_init 589 = .ok (.invokevirtual 43, 3) := by decide +kernel
theorem dX4_init_592 : decode cX4_init 592 = .ok (.aload_n 0, 1) := by decide +kernel
theorem dX4_init_593 : decode cX4_init 593 = .ok (.iconst 5, 1) := by decide +kernel
theorem dX4_init_594 : decode cX4_init 594 = .ok (.iconst 2, 1) := by decide +kernel
theorem dX4_init_595 : decode cX4_init 595 = .ok (.bipush 6, 2) := by decide +kernel
theorem dX4_init_597 : decode cX4_init 597 = .ok (.iconst 1, 1) := by decide +kernel
theorem dX4_init_598 : decode cX4_init 598 = .ok (.invokevirtual 46, 3) := by decide +kernel
theorem dX4_init_601 : decode cX4_init 601 = .ok (.aload_n 0, 1) := by decide +kernel
theorem dX4_init_602 : decode cX4_init 602 = .ok (.getfield 13, 3) := by decide +kernel
theorem dX4_init_605 : decode cX4_init 605 = .ok (.bipush 13, 2) := by decide +kernel
theorem dX4_init_607 : decode cX4_init 607 = .ok (.iconst 1, 1) := by decide +kernel
theorem dX4_init_608 : decode cX4_init 608 = .ok (.iastore, 1) := by decide +kernel
theorem dX4_init_609 : decode cX4_init 609 = .ok (.aload_n 0, 1) := by decide +kernel
theorem dX4_init_610 : decode cX4_init 610 = .ok (.getfield 13, 3) := by decide +kernel
theorem dX4_init_613 : decode cX4_init 613 = .ok (.bipush 14, 2) := by decide +kernel
theorem dX4_init_615 : decode cX4_init 615 = .ok (.iconst 2, 1) := by decide +kernel
theorem dX4_init_616 : decode cX4_init 616 = .ok (.iastore, 1) := by decide +kernel
theorem dX4_init_617 : decode cX4_init 617 = .ok (.aload_n 0, 1) := by decide +kernel
theorem dX4_init_618 : decode cX4_init 618 = .ok (.getfield 13, 3) := by decide +kernel
theorem dX4_init_621 : decode cX4_init 621 = .ok (.iconst 0, 1) := by decide +kernel
theorem dX4_init_622 : decode cX4_init 622 = .ok (.invokestatic 50, 3) := by decide +kernel
theorem dX4_init_625 : decode cX4_init 625 = .ok (.iconst 4, 1) := by decide +kernel
theorem dX4_init_626 : decode cX4_init 626 = .ok (.iadd, 1) := by decide +kernel
theorem dX4_init_627 : decode cX4_init 627 = .ok (.iconst 4, 1) := by decide +kernel
theorem dX4_init_628 : decode cX4_init 628 = .ok (.iastore, 1) := by decide +kernel
theorem dX4_init_629 : decode cX4_init 629 = .ok (.aload_n 0, 1) := by decide +kernel
theorem dX4_init_630 : decode cX4_init 630 = .ok (.iconst 1, 1) := by decide +kernel
theorem dX4_init_631 : decode cX4_init 631 = .ok (.aload_n 0, 1) := by decide +kernel
theorem dX4_init_632 : decode cX4_init 632 = .ok (.iconst 1, 1) := by decide +kernel
theorem dX4_init_633 : decode cX4_init 633 = .ok (.invokevirtual 54, 3) := by decide +kernel
theorem dX4_init_636 : decode cX4_init 636 = .ok (.invokevirtual 57, 3) := by decide +kernel
theorem dX4_init_639 : decode cX4_init 639 = .ok (.aload_n 0, 1) := by decide +kernel
theorem dX4_init_640 : decode cX4_init 640 = .ok (.getfield 13, 3) := by decide +kernel
theorem dX4_init_643 : decode cX4_init 643 = .ok (.iconst 2, 1) := by decide +kernel
theorem dX4_init_644 : decode cX4_init 644 = .ok (.invokestatic 50, 3) := by decide +kernel
theorem dX4_init_647 : decode cX4_init 647 = .ok (.iconst 4, 1) := by decide +kernel
theorem dX4_init_648 : decode cX4_init 648 = .ok (.iadd, 1) := by decide +kernel
theorem dX4_init_649 : decode cX4_init 649 = .ok (.iconst 4, 1) := by decide +kernel
theorem dX4_init_650 : decode cX4_init 650 = .ok (.iastore, 1) := by decide +kernel
theorem dX4_init_651 : decode cX4_init 651 = .ok (.aload_n 0, 1) := by decide +kernel
theorem dX4_init_652 : decode cX4_init 652 = .ok (.iconst 4, 1) := by decide +kernel
theorem dX4_init_653 : decode cX4_init 653 = .ok (.invokevirtual 61, 3) := by decide +kernel
theorem dX4_init_656 : decode cX4_init 656 = .ok (.istore_n 1, 1) := by decide +kernel
theorem dX4_init_657 : decode cX4_init 657 = .ok (.return_, 1) := by decide +kernel
theorem dX4_spellsKey_0 : decode cX4_spellsKey 0 = .ok (.iconst 0, 1) := by decide +kernel
theorem dX4_spellsKey_1 : decode cX4_spellsKey 1 = .ok (.istore_n 2, 1) := by decide +kernel
theorem dX4_spellsKey_2 : decode cX4_spellsKey 2 = .ok (.iload_n 2, 1) := by decide +kernel
theorem dX4_spellsKey_3 : decode cX4_spellsKey 3 = .ok (.bipush 6, 2) := by decide +kernel
theorem dX4_spellsKey_5 : decode cX4_spellsKey 5 = .ok (.if_icmp .ge 26, 3) := by decide +kernel
theorem dX4_spellsKey_8 : decode cX4_spellsKey 8 = .ok (.aload_n 0, 1) := by decide +kernel
theorem dX4_spellsKey_9 : decode cX4_spellsKey 9 = .ok (.getfield 25, 3) := by decide +kernel
theorem dX4_spellsKey_12 : decode cX4_spellsKey 12 = .ok (.iload_n 2, 1) := by decide +kernel
theorem dX4_spellsKey_13 : decode cX4_spellsKey 13 = .ok (.aload_n 0, 1) := by decide +kernel
theorem dX4_spellsKey_14 : decode cX4_spellsKey 14 = .ok (.getfield 7, 3) := by decide +kernel
theorem dX4_spellsKey_17 : decode cX4_spellsKey 17 = .ok (.bipush 8, 2) := by decide +kernel
theorem dX4_spellsKey_19 : decode cX4_spellsKey 19 = .ok (.iload_n 1, 1) := by decide +kernel
theorem dX4_spellsKey_20 : decode cX4_spellsKey 20 = .ok (.imul, 1) := by decide +kernel
theorem dX4_spellsKey_21 : decode cX4_spellsKey 21 = .ok (.iload_n 2, 1) := by decide +kernel
theorem dX4_spellsKey_22 : decode cX4_spellsKey 22 = .ok (.iadd, 1) := by decide +kernel
theorem dX4_spellsKey_23 : decode cX4_spellsKey 23 = .ok (.iaload, 1) := by decide +kernel
theorem dX4_spellsKey_24 : decode cX4_spellsKey 24 = .ok (.iastore, 1) := by decide +kernel
theorem dX4_spellsKey_25 : decode cX4_spellsKey 25 = .ok (.iinc 2 1, 3) := by decide +kernel
theorem dX4_spellsKey_28 : decode cX4_spellsKey 28 = .ok (.goto (-26), 3) := by decide +kernel
theorem dX4_spellsKey_31 : decode cX4_spellsKey 31 = .ok (.return_, 1) := by decide +kernel
theorem dX4_thrown_0 : decode cX4_thrown 0 = .ok (.aload_n 0, 1) := by decide +kernel
theorem dX4_thrown_1 : decode cX4_thrown 1 = .ok (.getfield 64, 3) := by decide +kernel
theorem dX4_thrown_4 : decode cX4_thrown 4 = .ok (.ireturn, 1) := by decide +kernel
theorem dX4_refuse_0 : decode cX4_refuse 0 = .ok (.aload_n 0, 1) := by decide +kernel
theorem dX4_refuse_1 : decode cX4_refuse 1 = .ok (.iload_n 1, 1) := by decide +kernel
theorem dX4_refuse_2 : decode cX4_refuse 2 = .ok (.putfield 64, 3) := by decide +kernel
theorem dX4_refuse_5 : decode cX4_refuse 5 = .ok (.iconst 0, 1) := by decide +kernel
theorem dX4_refuse_6 : decode cX4_refuse 6 = .ok (.ireturn, 1) := by decide +kernel
theorem dX4_told_0 : decode cX4_told 0 = .ok (.aload_n 0, 1) := by decide +kernel
theorem dX4_told_1 : decode cX4_told 1 = .ok (.iconst 0, 1) := by decide +kernel
theorem dX4_told_2 : decode cX4_told 2 = .ok (.putfield 64, 3) := by decide +kernel
theorem dX4_told_5 : decode cX4_told 5 = .ok (.iload_n 1, 1) := by decide +kernel
theorem dX4_told_6 : decode cX4_told 6 = .ok (.ireturn, 1) := by decide +kernel
theorem dX4_in_0 : decode cX4_in 0 = .ok (.iload_n 0, 1) := by decide +kernel
theorem dX4_in_1 : decode cX4_in 1 = .ok (.iload_n 1, 1) := by decide +kernel
theorem dX4_in_2 : decode cX4_in 2 = .ok (.if_icmp .lt 12, 3) := by decide +kernel
theorem dX4_in_5 : decode cX4_in 5 = .ok (.iload_n 0, 1) := by decide +kernel
theorem dX4_in_6 : decode cX4_in 6 = .ok (.iload_n 2, 1) := by decide +kernel
theorem dX4_in_7 : decode cX4_in 7 = .ok (.if_icmp .gt 7, 3) := by decide +kernel
theorem dX4_in_10 : decode cX4_in 10 = .ok (.iconst 1, 1) := by decide +kernel
theorem dX4_in_11 : decode cX4_in 11 = .ok (.goto 4, 3) := by decide +kernel
theorem dX4_in_14 : decode cX4_in 14 = .ok (.iconst 0, 1) := by decide +kernel
theorem dX4_in_15 : decode cX4_in 15 = .ok (.ireturn, 1) := by decide +kernel
theorem dX4_without_0 : decode cX4_without 0 = .ok (.iload_n 0, 1) := by decide +kernel
theorem dX4_without_1 : decode cX4_without 1 = .ok (.ifCond .ge 8, 3) := by decide +kernel
theorem dX4_without_4 : decode cX4_without 4 = .ok (.iload_n 0, 1) := by decide +kernel
theorem dX4_without_5 : decode cX4_without 5 = .ok (.ineg, 1) := by decide +kernel
theorem dX4_without_6 : decode cX4_without 6 = .ok (.goto 4, 3) := by decide +kernel
theorem dX4_without_9 : decode cX4_without 9 = .ok (.iload_n 0, 1) := by decide +kernel
theorem dX4_without_10 : decode cX4_without 10 = .ok (.ireturn, 1) := by decide +kernel
theorem dX4_c_0 : decode cX4_c 0 = .ok (.bipush 21, 2) := by decide +kernel
theorem dX4_c_2 : decode cX4_c 2 = .ok (.bipush 13, 2) := by decide +kernel
theorem dX4_c_4 : decode cX4_c 4 = .ok (.iload_n 0, 1) := by decide +kernel
theorem dX4_c_5 : decode cX4_c 5 = .ok (.imul, 1) := by decide +kernel
theorem dX4_c_6 : decode cX4_c 6 = .ok (.iadd, 1) := by decide +kernel
theorem dX4_c_7 : decode cX4_c 7 = .ok (.ireturn, 1) := by decide +kernel
theorem dX4_isGarden_0 : decode cX4_isGarden 0 = .ok (.iload_n 1, 1) := by decide +kernel
theorem dX4_isGarden_1 : decode cX4_isGarden 1 = .ok (.iconst 0, 1) := by decide +kernel
theorem dX4_isGarden_2 : decode cX4_isGarden 2 = .ok (.aload_n 0, 1) := by decide +kernel
theorem dX4_isGarden_3 : decode cX4_isGarden 3 = .ok (.getfield 13, 3) := by decide +kernel
theorem dX4_isGarden_6 : decode cX4_isGarden 6 = .ok (.iconst 4, 1) := by decide +kernel
theorem dX4_isGarden_7 : decode cX4_isGarden 7 = .ok (.iaload, 1) := by decide +kernel
theorem dX4_isGarden_8 : decode cX4_isGarden 8 = .ok (.iconst 1, 1) := by decide +kernel
theorem dX4_isGarden_9 : decode cX4_isGarden 9 = .ok (.isub, 1) := by decide +kernel
theorem dX4_isGarden_10 : decode cX4_isGarden 10 = .ok (.invokestatic 67, 3) := by decide +kernel
theorem dX4_isGarden_13 : decode cX4_isGarden 13 = .ok (.ireturn, 1) := by decide +kernel
theorem dX4_isChild_0 : decode cX4_isChild 0 = .ok (.iload_n 1, 1) := by decide +kernel
theorem dX4_isChild_1 : decode cX4_isChild 1 = .ok (.iconst 0, 1) := by decide +kernel
theorem dX4_isChild_2 : decode cX4_isChild 2 = .ok (.aload_n 0, 1) := by decide +kernel
theorem dX4_isChild_3 : decode cX4_isChild 3 = .ok (.getfield 13, 3) := by decide +kernel
theorem dX4_isChild_6 : decode cX4_isChild 6 = .ok (.iconst 5, 1) := by decide +kernel
theorem dX4_isChild_7 : decode cX4_isChild 7 = .ok (.iaload, 1) := by decide +kernel
theorem dX4_isChild_8 : decode cX4_isChild 8 = .ok (.iconst 1, 1) := by decide +kernel
theorem dX4_isChild_9 : decode cX4_isChild 9 = .ok (.isub, 1) := by decide +kernel
theorem dX4_isChild_10 : decode cX4_isChild 10 = .ok (.invokestatic 67, 3) := by decide +kernel
theorem dX4_isChild_13 : decode cX4_isChild 13 = .ok (.ireturn, 1) := by decide +kernel
theorem dX4_isDate_0 : decode cX4_isDate 0 = .ok (.iload_n 0, 1) := by decide +kernel
theorem dX4_isDate_1 : decode cX4_isDate 1 = .ok (.iconst 1, 1) := by decide +kernel
theorem dX4_isDate_2 : decode cX4_isDate 2 = .ok (.bipush 12, 2) := by decide +kernel
theorem dX4_isDate_4 : decode cX4_isDate 4 = .ok (.invokestatic 67, 3) := by decide +kernel
theorem dX4_isDate_7 : decode cX4_isDate 7 = .ok (.ifCond .eq 17, 3) := by decide +kernel
theorem dX4_isDate_10 : decode cX4_isDate 10 = .ok (.iload_n 1, 1) := by decide +kernel
theorem dX4_isDate_11 : decode cX4_isDate 11 = .ok (.iconst 1, 1) := by decide +kernel
theorem dX4_isDate_12 : decode cX4_isDate 12 = .ok (.bipush 30, 2) := by decide +kernel
theorem dX4_isDate_14 : decode cX4_isDate 14 = .ok (.invokestatic 67, 3) := by decide +kernel
theorem dX4_isDate_17 : decode cX4_isDate 17 = .ok (.ifCond .eq 7, 3) := by decide +kernel
theorem dX4_isDate_20 : decode cX4_isDate 20 = .ok (.iconst 1, 1) := by decide +kernel
theorem dX4_isDate_21 : decode cX4_isDate 21 = .ok (.goto 4, 3) := by decide +kernel
theorem dX4_isDate_24 : decode cX4_isDate 24 = .ok (.iconst 0, 1) := by decide +kernel
theorem dX4_isDate_25 : decode cX4_isDate 25 = .ok (.ireturn, 1) := by decide +kernel
theorem dX4_position_0 : decode cX4_position 0 = .ok (.iload_n 0, 1) := by decide +kernel
theorem dX4_position_1 : decode cX4_position 1 = .ok (.iconst 1, 1) := by decide +kernel
theorem dX4_position_2 : decode cX4_position 2 = .ok (.isub, 1) := by decide +kernel
theorem dX4_position_3 : decode cX4_position 3 = .ok (.bipush 30, 2) := by decide +kernel
theorem dX4_position_5 : decode cX4_position 5 = .ok (.imul, 1) := by decide +kernel
theorem dX4_position_6 : decode cX4_position 6 = .ok (.iload_n 1, 1) := by decide +kernel
theorem dX4_position_7 : decode cX4_position 7 = .ok (.iadd, 1) := by decide +kernel
theorem dX4_position_8 : decode cX4_position 8 = .ok (.iconst 1, 1) := by decide +kernel
theorem dX4_position_9 : decode cX4_position 9 = .ok (.isub, 1) := by decide +kernel
theorem dX4_position_10 : decode cX4_position 10 = .ok (.ireturn, 1) := by decide +kernel
theorem dX4_plants_0 : decode cX4_plants 0 = .ok (.aload_n 0, 1) := by decide +kernel
theorem dX4_plants_1 : decode cX4_plants 1 = .ok (.getfield 13, 3) := by decide +kernel
theorem dX4_plants_4 : decode cX4_plants 4 = .ok (.bipush 17, 2) := by decide +kernel
theorem dX4_plants_6 : decode cX4_plants 6 = .ok (.aload_n 0, 1) := by decide +kernel
theorem dX4_plants_7 : decode cX4_plants 7 = .ok (.getfield 13, 3) := by decide +kernel
theorem dX4_plants_10 : decode cX4_plants 10 = .ok (.iconst 4, 1) := by decide +kernel
theorem dX4_plants_11 : decode cX4_plants 11 = .ok (.iaload, 1) := by decide +kernel
theorem dX4_plants_12 : decode cX4_plants 12 = .ok (.iadd, 1) := by decide +kernel
theorem dX4_plants_13 : decode cX4_plants 13 = .ok (.iload_n 1, 1) := by decide +kernel
theorem dX4_plants_14 : decode cX4_plants 14 = .ok (.iastore, 1) := by decide +kernel
theorem dX4_plants_15 : decode cX4_plants 15 = .ok (.aload_n 0, 1) := by decide +kernel
theorem dX4_plants_16 : decode cX4_plants 16 = .ok (.getfield 13, 3) := by decide +kernel
theorem dX4_plants_19 : decode cX4_plants 19 = .ok (.iconst 4, 1) := by decide +kernel
theorem dX4_plants_20 : decode cX4_plants 20 = .ok (.dup2, 1) := by decide +kernel
theorem dX4_plants_21 : decode cX4_plants 21 = .ok (.iaload, 1) := by decide +kernel
theorem dX4_plants_22 : decode cX4_plants 22 = .ok (.iconst 1, 1) := by decide +kernel
theorem dX4_plants_23 : decode cX4_plants 23 = .ok (.iadd, 1) := by decide +kernel
theorem dX4_plants_24 : decode cX4_plants 24 = .ok (.iastore, 1) := by decide +kernel
theorem dX4_plants_25 : decode cX4_plants 25 = .ok (.return_, 1) := by decide +kernel
theorem dX4_comes_0 : decode cX4_comes 0 = .ok (.aload_n 0, 1) := by decide +kernel
theorem dX4_comes_1 : decode cX4_comes 1 = .ok (.getfield 13, 3) := by decide +kernel
theorem dX4_comes_4 : decode cX4_comes 4 = .ok (.iconst 5, 1) := by decide +kernel
theorem dX4_comes_5 : decode cX4_comes 5 = .ok (.iaload, 1) := by decide +kernel
theorem dX4_comes_6 : decode cX4_comes 6 = .ok (.invokestatic 50, 3) := by decide +kernel
theorem dX4_comes_9 : decode cX4_comes 9 = .ok (.istore 5, 2) := by decide +kernel
theorem dX4_comes_11 : decode cX4_comes 11 = .ok (.aload_n 0, 1) := by decide +kernel
theorem dX4_comes_12 : decode cX4_comes 12 = .ok (.getfield 13, 3) := by decide +kernel
theorem dX4_comes_15 : decode cX4_comes 15 = .ok (.iload 5, 2) := by decide +kernel
theorem dX4_comes_17 : decode cX4_comes 17 = .ok (.iconst 0, 1) := by decide +kernel
theorem dX4_comes_18 : decode cX4_comes 18 = .ok (.iadd, 1) := by decide +kernel
theorem dX4_comes_19 : decode cX4_comes 19 = .ok (.iload_n 1, 1) := by decide +kernel
theorem dX4_comes_20 : decode cX4_comes 20 = .ok (.iastore, 1) := by decide +kernel
theorem dX4_comes_21 : decode cX4_comes 21 = .ok (.aload_n 0, 1) := by decide +kernel
theorem dX4_comes_22 : decode cX4_comes 22 = .ok (.getfield 13, 3) := by decide +kernel
theorem dX4_comes_25 : decode cX4_comes 25 = .ok (.iload 5, 2) := by decide +kernel
theorem dX4_comes_27 : decode cX4_comes 27 = .ok (.iconst 1, 1) := by decide +kernel
theorem dX4_comes_28 : decode cX4_comes 28 = .ok (.iadd, 1) := by decide +kernel
theorem dX4_comes_29 : decode cX4_comes 29 = .ok (.iload_n 2, 1) := by decide +kernel
theorem dX4_comes_30 : decode cX4_comes 30 = .ok (.iastore, 1) := by decide +kernel
theorem dX4_comes_31 : decode cX4_comes 31 = .ok (.aload_n 0, 1) := by decide +kernel
theorem dX4_comes_32 : decode cX4_comes 32 = .ok (.getfield 13, 3) := by decide +kernel
theorem dX4_comes_35 : decode cX4_comes 35 = .ok (.iload 5, 2) := by decide +kernel
theorem dX4_comes_37 : decode cX4_comes 37 = .ok (.iconst 2, 1) := by decide +kernel
theorem dX4_comes_38 : decode cX4_comes 38 = .ok (.iadd, 1) := by decide +kernel
theorem dX4_comes_39 : decode cX4_comes 39 = .ok (.iload_n 3, 1) := by decide +kernel
theorem dX4_comes_40 : decode cX4_comes 40 = .ok (.iastore, 1) := by decide +kernel
theorem dX4_comes_41 : decode cX4_comes 41 = .ok (.aload_n 0, 1) := by decide +kernel
theorem dX4_comes_42 : decode cX4_comes 42 = .ok (.getfield 13, 3) := by decide +kernel
theorem dX4_comes_45 : decode cX4_comes 45 = .ok (.iload 5, 2) := by decide +kernel
theorem dX4_comes_47 : decode cX4_comes 47 = .ok (.iconst 3, 1) := by decide +kernel
theorem dX4_comes_48 : decode cX4_comes 48 = .ok (.iadd, 1) := by decide +kernel
theorem dX4_comes_49 : decode cX4_comes 49 = .ok (.iload 4, 2) := by decide +kernel
theorem dX4_comes_51 : decode cX4_comes 51 = .ok (.iastore, 1) := by decide +kernel
theorem dX4_comes_52 : decode cX4_comes 52 = .ok (.aload_n 0, 1) := by decide +kernel
theorem dX4_comes_53 : decode cX4_comes 53 = .ok (.getfield 13, 3) := by decide +kernel
theorem dX4_comes_56 : decode cX4_comes 56 = .ok (.iload 5, 2) := by decide +kernel
theorem dX4_comes_58 : decode cX4_comes 58 = .ok (.iconst 4, 1) := by decide +kernel
theorem dX4_comes_59 : decode cX4_comes 59 = .ok (.iadd, 1) := by decide +kernel
theorem dX4_comes_60 : decode cX4_comes 60 = .ok (.iconst (-1), 1) := by decide +kernel
theorem dX4_comes_61 : decode cX4_comes 61 = .ok (.iastore, 1) := by decide +kernel
theorem dX4_comes_62 : decode cX4_comes 62 = .ok (.aload_n 0, 1) := by decide +kernel
theorem dX4_comes_63 : decode cX4_comes 63 = .ok (.getfield 13, 3) := by decide +kernel
theorem dX4_comes_66 : decode cX4_comes 66 = .ok (.iload 5, 2) := by decide +kernel
theorem dX4_comes_68 : decode cX4_comes 68 = .ok (.iconst 5, 1) := by decide +kernel
theorem dX4_comes_69 : decode cX4_comes 69 = .ok (.iadd, 1) := by decide +kernel
theorem dX4_comes_70 : decode cX4_comes 70 = .ok (.iconst 0, 1) := by decide +kernel
theorem dX4_comes_71 : decode cX4_comes 71 = .ok (.iastore, 1) := by decide +kernel
theorem dX4_comes_72 : decode cX4_comes 72 = .ok (.aload_n 0, 1) := by decide +kernel
theorem dX4_comes_73 : decode cX4_comes 73 = .ok (.getfield 13, 3) := by decide +kernel
theorem dX4_comes_76 : decode cX4_comes 76 = .ok (.iload 5, 2) := by decide +kernel
theorem dX4_comes_78 : decode cX4_comes 78 = .ok (.bipush 6, 2) := by decide +kernel
theorem dX4_comes_80 : decode cX4_comes 80 = .ok (.iadd, 1) := by decide +kernel
theorem dX4_comes_81 : decode cX4_comes 81 = .ok (.iconst 0, 1) := by decide +kernel
theorem dX4_comes_82 : decode cX4_comes 82 = .ok (.iastore, 1) := by decide +kernel
theorem dX4_comes_83 : decode cX4_comes 83 = .ok (.iconst 0, 1) := by decide +kernel
theorem dX4_comes_84 : decode cX4_comes 84 = .ok (.istore 6, 2) := by decide +kernel
theorem dX4_comes_86 : decode cX4_comes 86 = .ok (.iload 6, 2) := by decide +kernel
theorem dX4_comes_88 : decode cX4_comes 88 = .ok (.bipush 6, 2) := by decide +kernel
theorem dX4_comes_90 : decode cX4_comes 90 = .ok (.if_icmp .ge 29, 3) := by decide +kernel
theorem dX4_comes_93 : decode cX4_comes 93 = .ok (.aload_n 0, 1) := by decide +kernel
theorem dX4_comes_94 : decode cX4_comes 94 = .ok (.getfield 13, 3) := by decide +kernel
theorem dX4_comes_97 : decode cX4_comes 97 = .ok (.iload 5, 2) := by decide +kernel
theorem dX4_comes_99 : decode cX4_comes 99 = .ok (.bipush 7, 2) := by decide +kernel
theorem dX4_comes_101 : decode cX4_comes 101 = .ok (.iadd, 1) := by decide +kernel
theorem dX4_comes_102 : decode cX4_comes 102 = .ok (.iload 6, 2) := by decide +kernel
theorem dX4_comes_104 : decode cX4_comes 104 = .ok (.iadd, 1) := by decide +kernel
theorem dX4_comes_105 : decode cX4_comes 105 = .ok (.aload_n 0, 1) := by decide +kernel
theorem dX4_comes_106 : decode cX4_comes 106 = .ok (.getfield 25, 3) := by decide +kernel
theorem dX4_comes_109 : decode cX4_comes 109 = .ok (.iload 6, 2) := by decide +kernel
theorem dX4_comes_111 : decode cX4_comes 111 = .ok (.iaload, 1) := by decide +kernel
theorem dX4_comes_112 : decode cX4_comes 112 = .ok (.iastore, 1) := by decide +kernel
theorem dX4_comes_113 : decode cX4_comes 113 = .ok (.iinc 6 1, 3) := by decide +kernel
theorem dX4_comes_116 : decode cX4_comes 116 = .ok (.goto (-30), 3) := by decide +kernel
theorem dX4_comes_119 : decode cX4_comes 119 = .ok (.aload_n 0, 1) := by decide +kernel
theorem dX4_comes_120 : decode cX4_comes 120 = .ok (.getfield 13, 3) := by decide +kernel
theorem dX4_comes_123 : decode cX4_comes 123 = .ok (.iconst 5, 1) := by decide +kernel
theorem dX4_comes_124 : decode cX4_comes 124 = .ok (.dup2, 1) := by decide +kernel
theorem dX4_comes_125 : decode cX4_comes 125 = .ok (.iaload, 1) := by decide +kernel
theorem dX4_comes_126 : decode cX4_comes 126 = .ok (.iconst 1, 1) := by decide +kernel
theorem dX4_comes_127 : decode cX4_comes 127 = .ok (.iadd, 1) := by decide +kernel
theorem dX4_comes_128 : decode cX4_comes 128 = .ok (.iastore, 1) := by decide +kernel
theorem dX4_comes_129 : decode cX4_comes 129 = .ok (.return_, 1) := by decide +kernel
theorem dX4_childSpelled_0 : decode cX4_childSpelled 0 = .ok (.iconst 0, 1) := by decide +kernel
theorem dX4_childSpelled_1 : decode cX4_childSpelled 1 = .ok (.istore_n 1, 1) := by decide +kernel
theorem dX4_childSpelled_2 : decode cX4_childSpelled 2 = .ok (.iload_n 1, 1) := by decide +kernel
theorem dX4_childSpelled_3 : decode cX4_childSpelled 3 = .ok (.aload_n 0, 1) := by decide +kernel
theorem dX4_childSpelled_4 : decode cX4_childSpelled 4 = .ok (.getfield 13, 3) := by decide +kernel
theorem dX4_childSpelled_7 : decode cX4_childSpelled 7 = .ok (.iconst 5, 1) := by decide +kernel
theorem dX4_childSpelled_8 : decode cX4_childSpelled 8 = .ok (.iaload, 1) := by decide +kernel
theorem dX4_childSpelled_9 : decode cX4_childSpelled 9 = .ok (.if_icmp .ge 64, 3) := by decide +kernel
theorem dX4_childSpelled_12 : decode cX4_childSpelled 12 = .ok (.iconst 1, 1) := by decide +kernel
theorem dX4_childSpelled_13 : decode cX4_childSpelled 13 = .ok (.istore_n 2, 1) := by decide +kernel
theorem dX4_childSpelled_14 : decode cX4_childSpelled 14 = .ok (.iconst 0, 1) := by decide +kernel
theorem dX4_childSpelled_15 : decode cX4_childSpelled 15 = .ok (.istore_n 3, 1) := by decide +kernel
theorem dX4_childSpelled_16 : decode cX4_childSpelled 16 = .ok (.iload_n 3, 1) := by decide +kernel
theorem dX4_childSpelled_17 : decode cX4_childSpelled 17 = .ok (.bipush 6, 2) := by decide +kernel
theorem dX4_childSpelled_19 : decode cX4_childSpelled 19 = .ok (.if_icmp .ge 42, 3) := by decide +kernel
theorem dX4_childSpelled_22 : decode cX4_childSpelled 22 = .ok (.iload_n 2, 1) := by decide +kernel
theorem dX4_childSpelled_23 : decode cX4_childSpelled 23 = .ok (.ifCond .eq 30, 3) := by decide +kernel
theorem dX4_childSpelled_26 : decode cX4_childSpelled 26 = .ok (.aload_n 0, 1) := by decide +kernel
theorem dX4_childSpelled_27 : decode cX4_childSpelled 27 = .ok (.getfield 13, 3) := by decide +kernel
theorem dX4_childSpelled_30 : decode cX4_childSpelled 30 = .ok (.iload_n 1, 1) := by decide +kernel
theorem dX4_childSpelled_31 : decode cX4_childSpelled 31 = .ok (.invokestatic 50, 3) := by decide +kernel
theorem dX4_childSpelled_34 : decode cX4_childSpelled 34 = .ok (.bipush 7, 2) := by decide +kernel
theorem dX4_childSpelled_36 : decode cX4_childSpelled 36 = .ok (.iadd, 1) := by decide +kernel
theorem dX4_childSpelled_37 : decode cX4_childSpelled 37 = .ok (.iload_n 3, 1) := by decide +kernel
theorem dX4_childSpelled_38 : decode cX4_childSpelled 38 = .ok (.iadd, 1) := by decide +kernel
theorem dX4_childSpelled_39 : decode cX4_childSpelled 39 = .ok (.iaload, 1) := by decide +kernel
theorem dX4_childSpelled_40 : decode cX4_childSpelled 40 = .ok (.aload_n 0, 1) := by decide +kernel
theorem dX4_childSpelled_41 : decode cX4_childSpelled 41 = .ok (.getfield 25, 3) := by decide +kernel
theorem dX4_childSpelled_44 : decode cX4_childSpelled 44 = .ok (.iload_n 3, 1) := by decide +kernel
theorem dX4_childSpelled_45 : decode cX4_childSpelled 45 = .ok (.iaload, 1) := by decide +kernel
theorem dX4_childSpelled_46 : decode cX4_childSpelled 46 = .ok (.if_icmp .ne 7, 3) := by decide +kernel
theorem dX4_childSpelled_49 : decode cX4_childSpelled 49 = .ok (.iconst 1, 1) := by decide +kernel
theorem dX4_childSpelled_50 : decode cX4_childSpelled 50 = .ok (.goto 4, 3) := by decide +kernel
theorem dX4_childSpelled_53 : decode cX4_childSpelled 53 = .ok (.iconst 0, 1) := by decide +kernel
theorem dX4_childSpelled_54 : decode cX4_childSpelled 54 = .ok (.istore_n 2, 1) := by decide +kernel
theorem dX4_childSpelled_55 : decode cX4_childSpelled 55 = .ok (.iinc 3 1, 3) := by decide +kernel
theorem dX4_childSpelled_58 : decode cX4_childSpelled 58 = .ok (.goto (-42), 3) := by decide +kernel
theorem dX4_childSpelled_61 : decode cX4_childSpelled 61 = .ok (.iload_n 2, 1) := by decide +kernel
theorem dX4_childSpelled_62 : decode cX4_childSpelled 62 = .ok (.ifCond .eq 5, 3) := by decide +kernel
theorem dX4_childSpelled_65 : decode cX4_childSpelled 65 = .ok (.iload_n 1, 1) := by decide +kernel
theorem dX4_childSpelled_66 : decode cX4_childSpelled 66 = .ok (.ireturn, 1) := by decide +kernel
theorem dX4_childSpelled_67 : decode cX4_childSpelled 67 = .ok (.iinc 1 1, 3) := by decide +kernel
theorem dX4_childSpelled_70 : decode cX4_childSpelled 70 = .ok (.goto (-68), 3) := by decide +kernel
theorem dX4_childSpelled_73 : decode cX4_childSpelled 73 = .ok (.iconst (-1), 1) := by decide +kernel
theorem dX4_childSpelled_74 : decode cX4_childSpelled 74 = .ok (.ireturn, 1) := by decide +kernel
theorem dX4_liking_0 : decode cX4_liking 0 = .ok (.iconst 0, 1) := by decide +kernel
theorem dX4_liking_1 : decode cX4_liking 1 = .ok (.istore_n 2, 1) := by decide +kernel
theorem dX4_liking_2 : decode cX4_liking 2 = .ok (.iconst 0, 1) := by decide +kernel
theorem dX4_liking_3 : decode cX4_liking 3 = .ok (.istore_n 3, 1) := by decide +kernel
theorem dX4_liking_4 : decode cX4_liking 4 = .ok (.iload_n 3, 1) := by decide +kernel
theorem dX4_liking_5 : decode cX4_liking 5 = .ok (.aload_n 0, 1) := by decide +kernel
theorem dX4_liking_6 : decode cX4_liking 6 = .ok (.getfield 13, 3) := by decide +kernel
theorem dX4_liking_9 : decode cX4_liking 9 = .ok (.iconst 5, 1) := by decide +kernel
theorem dX4_liking_10 : decode cX4_liking 10 = .ok (.iaload, 1) := by decide +kernel
theorem dX4_liking_11 : decode cX4_liking 11 = .ok (.if_icmp .ge 32, 3) := by decide +kernel
theorem dX4_liking_14 : decode cX4_liking 14 = .ok (.iload_n 2, 1) := by decide +kernel
theorem dX4_liking_15 : decode cX4_liking 15 = .ok (.aload_n 0, 1) := by decide +kernel
theorem dX4_liking_16 : decode cX4_liking 16 = .ok (.getfield 13, 3) := by decide +kernel
theorem dX4_liking_19 : decode cX4_liking 19 = .ok (.iload_n 3, 1) := by decide +kernel
theorem dX4_liking_20 : decode cX4_liking 20 = .ok (.invokestatic 50, 3) := by decide +kernel
theorem dX4_liking_23 : decode cX4_liking 23 = .ok (.iconst 0, 1) := by decide +kernel
theorem dX4_liking_24 : decode cX4_liking 24 = .ok (.iadd, 1) := by decide +kernel
theorem dX4_liking_25 : decode cX4_liking 25 = .ok (.iaload, 1) := by decide +kernel
theorem dX4_liking_26 : decode cX4_liking 26 = .ok (.iload_n 1, 1) := by decide +kernel
theorem dX4_liking_27 : decode cX4_liking 27 = .ok (.if_icmp .ne 7, 3) := by decide +kernel
theorem dX4_liking_30 : decode cX4_liking 30 = .ok (.iconst 1, 1) := by decide +kernel
theorem dX4_liking_31 : decode cX4_liking 31 = .ok (.goto 4, 3) := by decide +kernel
theorem dX4_liking_34 : decode cX4_liking 34 = .ok (.iconst 0, 1) := by decide +kernel
theorem dX4_liking_35 : decode cX4_liking 35 = .ok (.iadd, 1) := by decide +kernel
theorem dX4_liking_36 : decode cX4_liking 36 = .ok (.istore_n 2, 1) := by decide +kernel
theorem dX4_liking_37 : decode cX4_liking 37 = .ok (.iinc 3 1, 3) := by decide +kernel
theorem dX4_liking_40 : decode cX4_liking 40 = .ok (.goto (-36), 3) := by decide +kernel
theorem dX4_liking_43 : decode cX4_liking 43 = .ok (.iload_n 2, 1) := by decide +kernel
theorem dX4_liking_44 : decode cX4_liking 44 = .ok (.ireturn, 1) := by decide +kernel
theorem dX4_partyOn_0 : decode cX4_partyOn 0 = .ok (.iconst 0, 1) := by decide +kernel
theorem dX4_partyOn_1 : decode cX4_partyOn 1 = .ok (.istore_n 3, 1) := by decide +kernel
theorem dX4_partyOn_2 : decode cX4_partyOn 2 = .ok (.iload_n 3, 1) := by decide +kernel
theorem dX4_partyOn_3 : decode cX4_partyOn 3 = .ok (.aload_n 0, 1) := by decide +kernel
theorem dX4_partyOn_4 : decode cX4_partyOn 4 = .ok (.getfield 13, 3) := by decide +kernel
theorem dX4_partyOn_7 : decode cX4_partyOn 7 = .ok (.iconst 5, 1) := by decide +kernel
theorem dX4_partyOn_8 : decode cX4_partyOn 8 = .ok (.iaload, 1) := by decide +kernel
theorem dX4_partyOn_9 : decode cX4_partyOn 9 = .ok (.if_icmp .ge 41, 3) := by decide +kernel
theorem dX4_partyOn_12 : decode cX4_partyOn 12 = .ok (.aload_n 0, 1) := by decide +kernel
theorem dX4_partyOn_13 : decode cX4_partyOn 13 = .ok (.getfield 13, 3) := by decide +kernel
theorem dX4_partyOn_16 : decode cX4_partyOn 16 = .ok (.iload_n 3, 1) := by decide +kernel
theorem dX4_partyOn_17 : decode cX4_partyOn 17 = .ok (.invokestatic 50, 3) := by decide +kernel
theorem dX4_partyOn_20 : decode cX4_partyOn 20 = .ok (.iconst 3, 1) := by decide +kernel
theorem dX4_partyOn_21 : decode cX4_partyOn 21 = .ok (.iadd, 1) := by decide +kernel
theorem dX4_partyOn_22 : decode cX4_partyOn 22 = .ok (.iaload, 1) := by decide +kernel
theorem dX4_partyOn_23 : decode cX4_partyOn 23 = .ok (.iload_n 1, 1) := by decide +kernel
theorem dX4_partyOn_24 : decode cX4_partyOn 24 = .ok (.if_icmp .ne 20, 3) := by decide +kernel
theorem dX4_partyOn_27 : decode cX4_partyOn 27 = .ok (.aload_n 0, 1) := by decide +kernel
theorem dX4_partyOn_28 : decode cX4_partyOn 28 = .ok (.getfield 13, 3) := by decide +kernel
theorem dX4_partyOn_31 : decode cX4_partyOn 31 = .ok (.iload_n 3, 1) := by decide +kernel
theorem dX4_partyOn_32 : decode cX4_partyOn 32 = .ok (.invokestatic 50, 3) := by decide +kernel
theorem dX4_partyOn_35 : decode cX4_partyOn 35 = .ok (.iconst 4, 1) := by decide +kernel
theorem dX4_partyOn_36 : decode cX4_partyOn 36 = .ok (.iadd, 1) := by decide +kernel
theorem dX4_partyOn_37 : decode cX4_partyOn 37 = .ok (.iaload, 1) := by decide +kernel
theorem dX4_partyOn_38 : decode cX4_partyOn 38 = .ok (.iload_n 2, 1) := by decide +kernel
theorem dX4_partyOn_39 : decode cX4_partyOn 39 = .ok (.if_icmp .ne 5, 3) := by decide +kernel
theorem dX4_partyOn_42 : decode cX4_partyOn 42 = .ok (.iload_n 3, 1) := by decide +kernel
theorem dX4_partyOn_43 : decode cX4_partyOn 43 = .ok (.ireturn, 1) := by decide +kernel
theorem dX4_partyOn_44 : decode cX4_partyOn 44 = .ok (.iinc 3 1, 3) := by decide +kernel
theorem dX4_partyOn_47 : decode cX4_partyOn 47 = .ok (.goto (-45), 3) := by decide +kernel
theorem dX4_partyOn_50 : decode cX4_partyOn 50 = .ok (.iconst (-1), 1) := by decide +kernel
theorem dX4_partyOn_51 : decode cX4_partyOn 51 = .ok (.ireturn, 1) := by decide +kernel
theorem dX4_isTaken_0 : decode cX4_isTaken 0 = .ok (.iconst 0, 1) := by decide +kernel
theorem dX4_isTaken_1 : decode cX4_isTaken 1 = .ok (.istore 4, 2) := by decide +kernel
theorem dX4_isTaken_3 : decode cX4_isTaken 3 = .ok (.iload 4, 2) := by decide +kernel
theorem dX4_isTaken_5 : decode cX4_isTaken 5 = .ok (.aload_n 0, 1) := by decide +kernel
theorem dX4_isTaken_6 : decode cX4_isTaken 6 = .ok (.getfield 13, 3) := by decide +kernel
theorem dX4_isTaken_9 : decode cX4_isTaken 9 = .ok (.iconst 5, 1) := by decide +kernel
theorem dX4_isTaken_10 : decode cX4_isTaken 10 = .ok (.iaload, 1) := by decide +kernel
theorem dX4_isTaken_11 : decode cX4_isTaken 11 = .ok (.if_icmp .ge 49, 3) := by decide +kernel
theorem dX4_isTaken_14 : decode cX4_isTaken 14 = .ok (.iload 4, 2) := by decide +kernel
theorem dX4_isTaken_16 : decode cX4_isTaken 16 = .ok (.iload_n 1, 1) := by decide +kernel
theorem dX4_isTaken_17 : decode cX4_isTaken 17 = .ok (.if_icmp .eq 37, 3) := by decide +kernel
theorem dX4_isTaken_20 : decode cX4_isTaken 20 = .ok (.aload_n 0, 1) := by decide +kernel
theorem dX4_isTaken_21 : decode cX4_isTaken 21 = .ok (.getfield 13, 3) := by decide +kernel
theorem dX4_isTaken_24 : decode cX4_isTaken 24 = .ok (.iload 4, 2) := by decide +kernel
theorem dX4_isTaken_26 : decode cX4_isTaken 26 = .ok (.invokestatic 50, 3) := by decide +kernel
theorem dX4_isTaken_29 : decode cX4_isTaken 29 = .ok (.iconst 3, 1) := by decide +kernel
theorem dX4_isTaken_30 : decode cX4_isTaken 30 = .ok (.iadd, 1) := by decide +kernel
theorem dX4_isTaken_31 : decode cX4_isTaken 31 = .ok (.iaload, 1) := by decide +kernel
theorem dX4_isTaken_32 : decode cX4_isTaken 32 = .ok (.iload_n 2, 1) := by decide +kernel
theorem dX4_isTaken_33 : decode cX4_isTaken 33 = .ok (.if_icmp .ne 21, 3) := by decide +kernel
theorem dX4_isTaken_36 : decode cX4_isTaken 36 = .ok (.aload_n 0, 1) := by decide +kernel
theorem dX4_isTaken_37 : decode cX4_isTaken 37 = .ok (.getfield 13, 3) := by decide +kernel
theorem dX4_isTaken_40 : decode cX4_isTaken 40 = .ok (.iload 4, 2) := by decide +kernel
theorem dX4_isTaken_42 : decode cX4_isTaken 42 = .ok (.invokestatic 50, 3) := by decide +kernel
theorem dX4_isTaken_45 : decode cX4_isTaken 45 = .ok (.iconst 4, 1) := by decide +kernel
theorem dX4_isTaken_46 : decode cX4_isTaken 46 = .ok (.iadd, 1) := by decide +kernel
theorem dX4_isTaken_47 : decode cX4_isTaken 47 = .ok (.iaload, 1) := by decide +kernel
theorem dX4_isTaken_48 : decode cX4_isTaken 48 = .ok (.iload_n 3, 1) := by decide +kernel
theorem dX4_isTaken_49 : decode cX4_isTaken 49 = .ok (.if_icmp .ne 5, 3) := by decide +kernel
theorem dX4_isTaken_52 : decode cX4_isTaken 52 = .ok (.iconst 1, 1) := by decide +kernel
theorem dX4_isTaken_53 : decode cX4_isTaken 53 = .ok (.ireturn, 1) := by decide +kernel
theorem dX4_isTaken_54 : decode cX4_isTaken 54 = .ok (.iinc 4 1, 3) := by decide +kernel
theorem dX4_isTaken_57 : decode cX4_isTaken 57 = .ok (.goto (-54), 3) := by decide +kernel
theorem dX4_isTaken_60 : decode cX4_isTaken 60 = .ok (.iconst 0, 1) := by decide +kernel
theorem dX4_isTaken_61 : decode cX4_isTaken 61 = .ok (.ireturn, 1) := by decide +kernel
theorem dX4_reason_0 : decode cX4_reason 0 = .ok (.aload_n 0, 1) := by decide +kernel
theorem dX4_reason_1 : decode cX4_reason 1 = .ok (.iload_n 1, 1) := by decide +kernel
theorem dX4_reason_2 : decode cX4_reason 2 = .ok (.iload_n 2, 1) := by decide +kernel
theorem dX4_reason_3 : decode cX4_reason 3 = .ok (.iload_n 3, 1) := by decide +kernel
theorem dX4_reason_4 : decode cX4_reason 4 = .ok (.invokevirtual 71, 3) := by decide +kernel
theorem dX4_reason_7 : decode cX4_reason 7 = .ok (.ifCond .eq 5, 3) := by decide +kernel
theorem dX4_reason_10 : decode cX4_reason 10 = .ok (.iconst 1, 1) := by decide +kernel
theorem dX4_reason_11 : decode cX4_reason 11 = .ok (.ireturn, 1) := by decide +kernel
theorem dX4_reason_12 : decode cX4_reason 12 = .ok (.aload_n 0, 1) := by decide +kernel
theorem dX4_reason_13 : decode cX4_reason 13 = .ok (.getfield 13, 3) := by decide +kernel
theorem dX4_reason_16 : decode cX4_reason 16 = .ok (.bipush 17, 2) := by decide +kernel
theorem dX4_reason_18 : decode cX4_reason 18 = .ok (.iload_n 2, 1) := by decide +kernel
theorem dX4_reason_19 : decode cX4_reason 19 = .ok (.iadd, 1) := by decide +kernel
theorem dX4_reason_20 : decode cX4_reason 20 = .ok (.iaload, 1) := by decide +kernel
theorem dX4_reason_21 : decode cX4_reason 21 = .ok (.aload_n 0, 1) := by decide +kernel
theorem dX4_reason_22 : decode cX4_reason 22 = .ok (.aload_n 0, 1) := by decide +kernel
theorem dX4_reason_23 : decode cX4_reason 23 = .ok (.getfield 13, 3) := by decide +kernel
theorem dX4_reason_26 : decode cX4_reason 26 = .ok (.iload_n 1, 1) := by decide +kernel
theorem dX4_reason_27 : decode cX4_reason 27 = .ok (.invokestatic 50, 3) := by decide +kernel
theorem dX4_reason_30 : decode cX4_reason 30 = .ok (.iconst 0, 1) := by decide +kernel
theorem dX4_reason_31 : decode cX4_reason 31 = .ok (.iadd, 1) := by decide +kernel
theorem dX4_reason_32 : decode cX4_reason 32 = .ok (.iaload, 1) := by decide +kernel
theorem dX4_reason_33 : decode cX4_reason 33 = .ok (.invokevirtual 74, 3) := by decide +kernel
theorem dX4_reason_36 : decode cX4_reason 36 = .ok (.if_icmp .ge 7, 3) := by decide +kernel
theorem dX4_reason_39 : decode cX4_reason 39 = .ok (.iconst 2, 1) := by decide +kernel
theorem dX4_reason_40 : decode cX4_reason 40 = .ok (.goto 4, 3) := by decide +kernel
theorem dX4_reason_43 : decode cX4_reason 43 = .ok (.iconst 0, 1) := by decide +kernel
theorem dX4_reason_44 : decode cX4_reason 44 = .ok (.ireturn, 1) := by decide +kernel
theorem dX4_daysTo_0 : decode cX4_daysTo 0 = .ok (.iload_n 1, 1) := by decide +kernel
theorem dX4_daysTo_1 : decode cX4_daysTo 1 = .ok (.aload_n 0, 1) := by decide +kernel
theorem dX4_daysTo_2 : decode cX4_daysTo 2 = .ok (.getfield 13, 3) := by decide +kernel
theorem dX4_daysTo_5 : decode cX4_daysTo 5 = .ok (.iconst 1, 1) := by decide +kernel
theorem dX4_daysTo_6 : decode cX4_daysTo 6 = .ok (.iaload, 1) := by decide +kernel
theorem dX4_daysTo_7 : decode cX4_daysTo 7 = .ok (.isub, 1) := by decide +kernel
theorem dX4_daysTo_8 : decode cX4_daysTo 8 = .ok (.sipush 360, 3) := by decide +kernel
theorem dX4_daysTo_11 : decode cX4_daysTo 11 = .ok (.iadd, 1) := by decide +kernel
theorem dX4_daysTo_12 : decode cX4_daysTo 12 = .ok (.sipush 360, 3) := by decide +kernel
theorem dX4_daysTo_15 : decode cX4_daysTo 15 = .ok (.irem, 1) := by decide +kernel
theorem dX4_daysTo_16 : decode cX4_daysTo 16 = .ok (.istore_n 2, 1) := by decide +kernel
theorem dX4_daysTo_17 : decode cX4_daysTo 17 = .ok (.iload_n 2, 1) := by decide +kernel
theorem dX4_daysTo_18 : decode cX4_daysTo 18 = .ok (.ifCond .ne 9, 3) := by decide +kernel
theorem dX4_daysTo_21 : decode cX4_daysTo 21 = .ok (.sipush 360, 3) := by decide +kernel
theorem dX4_daysTo_24 : decode cX4_daysTo 24 = .ok (.goto 4, 3) := by decide +kernel
theorem dX4_daysTo_27 : decode cX4_daysTo 27 = .ok (.iload_n 2, 1) := by decide +kernel
theorem dX4_daysTo_28 : decode cX4_daysTo 28 = .ok (.ireturn, 1) := by decide +kernel
theorem dX4_seedBehind_0 : decode cX4_seedBehind 0 = .ok (.iload_n 0, 1) := by decide +kernel
theorem dX4_seedBehind_1 : decode cX4_seedBehind 1 = .ok (.sipush 211, 3) := by decide +kernel
theorem dX4_seedBehind_4 : decode cX4_seedBehind 4 = .ok (.imul, 1) := by decide +kernel
theorem dX4_seedBehind_5 : decode cX4_seedBehind 5 = .ok (.bipush 97, 2) := by decide +kernel
theorem dX4_seedBehind_7 : decode cX4_seedBehind 7 = .ok (.iadd, 1) := by decide +kernel
theorem dX4_seedBehind_8 : decode cX4_seedBehind 8 = .ok (.sipush 9973, 3) := by decide +kernel
theorem dX4_seedBehind_11 : decode cX4_seedBehind 11 = .ok (.irem, 1) := by decide +kernel
theorem dX4_seedBehind_12 : decode cX4_seedBehind 12 = .ok (.ireturn, 1) := by decide +kernel
theorem dX4_tries_0 : decode cX4_tries 0 = .ok (.aload_n 0, 1) := by decide +kernel
theorem dX4_tries_1 : decode cX4_tries 1 = .ok (.aload_n 0, 1) := by decide +kernel
theorem dX4_tries_2 : decode cX4_tries 2 = .ok (.getfield 13, 3) := by decide +kernel
theorem dX4_tries_5 : decode cX4_tries 5 = .ok (.iconst 2, 1) := by decide +kernel
theorem dX4_tries_6 : decode cX4_tries 6 = .ok (.iaload, 1) := by decide +kernel
theorem dX4_tries_7 : decode cX4_tries 7 = .ok (.putfield 77, 3) := by decide +kernel
theorem dX4_tries_10 : decode cX4_tries 10 = .ok (.iconst 1, 1) := by decide +kernel
theorem dX4_tries_11 : decode cX4_tries 11 = .ok (.istore_n 2, 1) := by decide +kernel
theorem dX4_tries_12 : decode cX4_tries 12 = .ok (.iload_n 2, 1) := by decide +kernel
theorem dX4_tries_13 : decode cX4_tries 13 = .ok (.bipush 20, 2) := by decide +kernel
theorem dX4_tries_15 : decode cX4_tries 15 = .ok (.if_icmp .gt 57, 3) := by decide +kernel
theorem dX4_tries_18 : decode cX4_tries 18 = .ok (.aload_n 0, 1) := by decide +kernel
theorem dX4_tries_19 : decode cX4_tries 19 = .ok (.aload_n 0, 1) := by decide +kernel
theorem dX4_tries_20 : decode cX4_tries 20 = .ok (.getfield 77, 3) := by decide +kernel
theorem dX4_tries_23 : decode cX4_tries 23 = .ok (.invokestatic 80, 3) := by decide +kernel
theorem dX4_tries_26 : decode cX4_tries 26 = .ok (.putfield 77, 3) := by decide +kernel
theorem dX4_tries_29 : decode cX4_tries 29 = .ok (.aload_n 0, 1) := by decide +kernel
theorem dX4_tries_30 : decode cX4_tries 30 = .ok (.aload_n 0, 1) := by decide +kernel
theorem dX4_tries_31 : decode cX4_tries 31 = .ok (.getfield 77, 3) := by decide +kernel
theorem dX4_tries_34 : decode cX4_tries 34 = .ok (.sipush 360, 3) := by decide +kernel
theorem dX4_tries_37 : decode cX4_tries 37 = .ok (.irem, 1) := by decide +kernel
theorem dX4_tries_38 : decode cX4_tries 38 = .ok (.putfield 83, 3) := by decide +kernel
theorem dX4_tries_41 : decode cX4_tries 41 = .ok (.aload_n 0, 1) := by decide +kernel
theorem dX4_tries_42 : decode cX4_tries 42 = .ok (.iload_n 1, 1) := by decide +kernel
theorem dX4_tries_43 : decode cX4_tries 43 = .ok (.aload_n 0, 1) := by decide +kernel
theorem dX4_tries_44 : decode cX4_tries 44 = .ok (.getfield 13, 3) := by decide +kernel
theorem dX4_tries_47 : decode cX4_tries 47 = .ok (.iload_n 1, 1) := by decide +kernel
theorem dX4_tries_48 : decode cX4_tries 48 = .ok (.invokestatic 50, 3) := by decide +kernel
theorem dX4_tries_51 : decode cX4_tries 51 = .ok (.iconst 3, 1) := by decide +kernel
theorem dX4_tries_52 : decode cX4_tries 52 = .ok (.iadd, 1) := by decide +kernel
theorem dX4_tries_53 : decode cX4_tries 53 = .ok (.iaload, 1) := by decide +kernel
theorem dX4_tries_54 : decode cX4_tries 54 = .ok (.aload_n 0, 1) := by decide +kernel
theorem dX4_tries_55 : decode cX4_tries 55 = .ok (.getfield 83, 3) := by decide +kernel
theorem dX4_tries_58 : decode cX4_tries 58 = .ok (.invokevirtual 86, 3) := by decide +kernel
theorem dX4_tries_61 : decode cX4_tries 61 = .ok (.ifCond .ne 5, 3) := by decide +kernel
theorem dX4_tries_64 : decode cX4_tries 64 = .ok (.iload_n 2, 1) := by decide +kernel
theorem dX4_tries_65 : decode cX4_tries 65 = .ok (.ireturn, 1) := by decide +kernel
theorem dX4_tries_66 : decode cX4_tries 66 = .ok (.iinc 2 1, 3) := by decide +kernel
theorem dX4_tries_69 : decode cX4_tries 69 = .ok (.goto (-57), 3) := by decide +kernel
theorem dX4_tries_72 : decode cX4_tries 72 = .ok (.iconst (-1), 1) := by decide +kernel
theorem dX4_tries_73 : decode cX4_tries 73 = .ok (.ireturn, 1) := by decide +kernel
theorem dX4_takesDraw_0 : decode cX4_takesDraw 0 = .ok (.iload_n 2, 1) := by decide +kernel
theorem dX4_takesDraw_1 : decode cX4_takesDraw 1 = .ok (.iconst (-1), 1) := by decide +kernel
theorem dX4_takesDraw_2 : decode cX4_takesDraw 2 = .ok (.if_icmp .eq 28, 3) := by decide +kernel
theorem dX4_takesDraw_5 : decode cX4_takesDraw 5 = .ok (.aload_n 0, 1) := by decide +kernel
theorem dX4_takesDraw_6 : decode cX4_takesDraw 6 = .ok (.getfield 13, 3) := by decide +kernel
theorem dX4_takesDraw_9 : decode cX4_takesDraw 9 = .ok (.iconst 2, 1) := by decide +kernel
theorem dX4_takesDraw_10 : decode cX4_takesDraw 10 = .ok (.aload_n 0, 1) := by decide +kernel
theorem dX4_takesDraw_11 : decode cX4_takesDraw 11 = .ok (.getfield 77, 3) := by decide +kernel
theorem dX4_takesDraw_14 : decode cX4_takesDraw 14 = .ok (.iastore, 1) := by decide +kernel
theorem dX4_takesDraw_15 : decode cX4_takesDraw 15 = .ok (.aload_n 0, 1) := by decide +kernel
theorem dX4_takesDraw_16 : decode cX4_takesDraw 16 = .ok (.getfield 13, 3) := by decide +kernel
theorem dX4_takesDraw_19 : decode cX4_takesDraw 19 = .ok (.iload_n 1, 1) := by decide +kernel
theorem dX4_takesDraw_20 : decode cX4_takesDraw 20 = .ok (.invokestatic 50, 3) := by decide +kernel
theorem dX4_takesDraw_23 : decode cX4_takesDraw 23 = .ok (.iconst 4, 1) := by decide +kernel
theorem dX4_takesDraw_24 : decode cX4_takesDraw 24 = .ok (.iadd, 1) := by decide +kernel
theorem dX4_takesDraw_25 : decode cX4_takesDraw 25 = .ok (.aload_n 0, 1) := by decide +kernel
theorem dX4_takesDraw_26 : decode cX4_takesDraw 26 = .ok (.getfield 83, 3) := by decide +kernel
theorem dX4_takesDraw_29 : decode cX4_takesDraw 29 = .ok (.iastore, 1) := by decide +kernel
theorem dX4_takesDraw_30 : decode cX4_takesDraw 30 = .ok (.return_, 1) := by decide +kernel
theorem dX4_cakeFor_0 : decode cX4_cakeFor 0 = .ok (.iconst 0, 1) := by decide +kernel
theorem dX4_cakeFor_1 : decode cX4_cakeFor 1 = .ok (.istore_n 2, 1) := by decide +kernel
theorem dX4_cakeFor_2 : decode cX4_cakeFor 2 = .ok (.iload_n 2, 1) := by decide +kernel
theorem dX4_cakeFor_3 : decode cX4_cakeFor 3 = .ok (.bipush 6, 2) := by decide +kernel
theorem dX4_cakeFor_5 : decode cX4_cakeFor 5 = .ok (.if_icmp .ge 40, 3) := by decide +kernel
theorem dX4_cakeFor_8 : decode cX4_cakeFor 8 = .ok (.aload_n 0, 1) := by decide +kernel
theorem dX4_cakeFor_9 : decode cX4_cakeFor 9 = .ok (.getfield 13, 3) := by decide +kernel
theorem dX4_cakeFor_12 : decode cX4_cakeFor 12 = .ok (.iload_n 1, 1) := by decide +kernel
theorem dX4_cakeFor_13 : decode cX4_cakeFor 13 = .ok (.invokestatic 50, 3) := by decide +kernel
theorem dX4_cakeFor_16 : decode cX4_cakeFor 16 = .ok (.iconst 0, 1) := by decide +kernel
theorem dX4_cakeFor_17 : decode cX4_cakeFor 17 = .ok (.iadd, 1) := by decide +kernel
theorem dX4_cakeFor_18 : decode cX4_cakeFor 18 = .ok (.iaload, 1) := by decide +kernel
theorem dX4_cakeFor_19 : decode cX4_cakeFor 19 = .ok (.iload_n 2, 1) := by decide +kernel
theorem dX4_cakeFor_20 : decode cX4_cakeFor 20 = .ok (.iadd, 1) := by decide +kernel
theorem dX4_cakeFor_21 : decode cX4_cakeFor 21 = .ok (.bipush 6, 2) := by decide +kernel
theorem dX4_cakeFor_23 : decode cX4_cakeFor 23 = .ok (.irem, 1) := by decide +kernel
theorem dX4_cakeFor_24 : decode cX4_cakeFor 24 = .ok (.istore_n 3, 1) := by decide +kernel
theorem dX4_cakeFor_25 : decode cX4_cakeFor 25 = .ok (.aload_n 0, 1) := by decide +kernel
theorem dX4_cakeFor_26 : decode cX4_cakeFor 26 = .ok (.getfield 13, 3) := by decide +kernel
theorem dX4_cakeFor_29 : decode cX4_cakeFor 29 = .ok (.bipush 11, 2) := by decide +kernel
theorem dX4_cakeFor_31 : decode cX4_cakeFor 31 = .ok (.iload_n 3, 1) := by decide +kernel
theorem dX4_cakeFor_32 : decode cX4_cakeFor 32 = .ok (.iadd, 1) := by decide +kernel
theorem dX4_cakeFor_33 : decode cX4_cakeFor 33 = .ok (.iaload, 1) := by decide +kernel
theorem dX4_cakeFor_34 : decode cX4_cakeFor 34 = .ok (.ifCond .le 5, 3) := by decide +kernel
theorem dX4_cakeFor_37 : decode cX4_cakeFor 37 = .ok (.iload_n 3, 1) := by decide +kernel
theorem dX4_cakeFor_38 : decode cX4_cakeFor 38 = .ok (.ireturn, 1) := by decide +kernel
theorem dX4_cakeFor_39 : decode cX4_cakeFor 39 = .ok (.iinc 2 1, 3) := by decide +kernel
theorem dX4_cakeFor_42 : decode cX4_cakeFor 42 = .ok (.goto (-40), 3) := by decide +kernel
theorem dX4_cakeFor_45 : decode cX4_cakeFor 45 = .ok (.iconst (-1), 1) := by decide +kernel
theorem dX4_cakeFor_46 : decode cX4_cakeFor 46 = .ok (.ireturn, 1) := by decide +kernel
theorem dX4_strength_0 : decode cX4_strength 0 = .ok (.aload_n 0, 1) := by decide +kernel
theorem dX4_strength_1 : decode cX4_strength 1 = .ok (.iload_n 2, 1) := by decide +kernel
theorem dX4_strength_2 : decode cX4_strength 2 = .ok (.invokevirtual 74, 3) := by decide +kernel
theorem dX4_strength_5 : decode cX4_strength 5 = .ok (.aload_n 0, 1) := by decide +kernel
theorem dX4_strength_6 : decode cX4_strength 6 = .ok (.getfield 13, 3) := by decide +kernel
theorem dX4_strength_9 : decode cX4_strength 9 = .ok (.iload_n 1, 1) := by decide +kernel
theorem dX4_strength_10 : decode cX4_strength 10 = .ok (.invokestatic 50, 3) := by decide +kernel
theorem dX4_strength_13 : decode cX4_strength 13 = .ok (.iconst 0, 1) := by decide +kernel
theorem dX4_strength_14 : decode cX4_strength 14 = .ok (.iadd, 1) := by decide +kernel
theorem dX4_strength_15 : decode cX4_strength 15 = .ok (.iaload, 1) := by decide +kernel
theorem dX4_strength_16 : decode cX4_strength 16 = .ok (.iload_n 2, 1) := by decide +kernel
theorem dX4_strength_17 : decode cX4_strength 17 = .ok (.if_icmp .ne 7, 3) := by decide +kernel
theorem dX4_strength_20 : decode cX4_strength 20 = .ok (.iconst 1, 1) := by decide +kernel
theorem dX4_strength_21 : decode cX4_strength 21 = .ok (.goto 4, 3) := by decide +kernel
theorem dX4_strength_24 : decode cX4_strength 24 = .ok (.iconst 0, 1) := by decide +kernel
theorem dX4_strength_25 : decode cX4_strength 25 = .ok (.isub, 1) := by decide +kernel
theorem dX4_strength_26 : decode cX4_strength 26 = .ok (.istore_n 3, 1) := by decide +kernel
theorem dX4_strength_27 : decode cX4_strength 27 = .ok (.aload_n 0, 1) := by decide +kernel
theorem dX4_strength_28 : decode cX4_strength 28 = .ok (.getfield 13, 3) := by decide +kernel
theorem dX4_strength_31 : decode cX4_strength 31 = .ok (.bipush 17, 2) := by decide +kernel
theorem dX4_strength_33 : decode cX4_strength 33 = .ok (.aload_n 0, 1) := by decide +kernel
theorem dX4_strength_34 : decode cX4_strength 34 = .ok (.getfield 13, 3) := by decide +kernel
theorem dX4_strength_37 : decode cX4_strength 37 = .ok (.iload_n 1, 1) := by decide +kernel
theorem dX4_strength_38 : decode cX4_strength 38 = .ok (.invokestatic 50, 3) := by decide +kernel
theorem dX4_strength_41 : decode cX4_strength 41 = .ok (.iconst 3, 1) := by decide +kernel
theorem dX4_strength_42 : decode cX4_strength 42 = .ok (.iadd, 1) := by decide +kernel
theorem dX4_strength_43 : decode cX4_strength 43 = .ok (.iaload, 1) := by decide +kernel
theorem dX4_strength_44 : decode cX4_strength 44 = .ok (.iadd, 1) := by decide +kernel
theorem dX4_strength_45 : decode cX4_strength 45 = .ok (.iaload, 1) := by decide +kernel
theorem dX4_strength_46 : decode cX4_strength 46 = .ok (.iconst 1, 1) := by decide +kernel
theorem dX4_strength_47 : decode cX4_strength 47 = .ok (.isub, 1) := by decide +kernel
theorem dX4_strength_48 : decode cX4_strength 48 = .ok (.istore 4, 2) := by decide +kernel
theorem dX4_strength_50 : decode cX4_strength 50 = .ok (.aload_n 0, 1) := by decide +kernel
theorem dX4_strength_51 : decode cX4_strength 51 = .ok (.getfield 13, 3) := by decide +kernel
theorem dX4_strength_54 : decode cX4_strength 54 = .ok (.iload_n 1, 1) := by decide +kernel
theorem dX4_strength_55 : decode cX4_strength 55 = .ok (.invokestatic 50, 3) := by decide +kernel
theorem dX4_strength_58 : decode cX4_strength 58 = .ok (.iconst 1, 1) := by decide +kernel
theorem dX4_strength_59 : decode cX4_strength 59 = .ok (.iadd, 1) := by decide +kernel
theorem dX4_strength_60 : decode cX4_strength 60 = .ok (.iaload, 1) := by decide +kernel
theorem dX4_strength_61 : decode cX4_strength 61 = .ok (.iload_n 3, 1) := by decide +kernel
theorem dX4_strength_62 : decode cX4_strength 62 = .ok (.iload 4, 2) := by decide +kernel
theorem dX4_strength_64 : decode cX4_strength 64 = .ok (.if_icmp .ge 7, 3) := by decide +kernel
theorem dX4_strength_67 : decode cX4_strength 67 = .ok (.iload_n 3, 1) := by decide +kernel
theorem dX4_strength_68 : decode cX4_strength 68 = .ok (.goto 5, 3) := by decide +kernel
theorem dX4_strength_71 : decode cX4_strength 71 = .ok (.iload 4, 2) := by decide +kernel
theorem dX4_strength_73 : decode cX4_strength 73 = .ok (.iadd, 1) := by decide +kernel
theorem dX4_strength_74 : decode cX4_strength 74 = .ok (.ireturn, 1) := by decide +kernel
theorem dX4_celebrates_0 : decode cX4_celebrates 0 = .ok (.iload_n 1, 1) := by decide +kernel
theorem dX4_celebrates_1 : decode cX4_celebrates 1 = .ok (.invokestatic 50, 3) := by decide +kernel
theorem dX4_celebrates_4 : decode cX4_celebrates 4 = .ok (.istore_n 2, 1) := by decide +kernel
theorem dX4_celebrates_5 : decode cX4_celebrates 5 = .ok (.aload_n 0, 1) := by decide +kernel
theorem dX4_celebrates_6 : decode cX4_celebrates 6 = .ok (.getfield 13, 3) := by decide +kernel
theorem dX4_celebrates_9 : decode cX4_celebrates 9 = .ok (.iload_n 2, 1) := by decide +kernel
theorem dX4_celebrates_10 : decode cX4_celebrates 10 = .ok (.iconst 2, 1) := by decide +kernel
theorem dX4_celebrates_11 : decode cX4_celebrates 11 = .ok (.iadd, 1) := by decide +kernel
theorem dX4_celebrates_12 : decode cX4_celebrates 12 = .ok (.dup2, 1) := by decide +kernel
theorem dX4_celebrates_13 : decode cX4_celebrates 13 = .ok (.iaload, 1) := by decide +kernel
theorem dX4_celebrates_14 : decode cX4_celebrates 14 = .ok (.iconst 1, 1) := by decide +kernel
theorem dX4_celebrates_15 : decode cX4_celebrates 15 = .ok (.iadd, 1) := by decide +kernel
theorem dX4_celebrates_16 : decode cX4_celebrates 16 = .ok (.iastore, 1) := by decide +kernel
theorem dX4_celebrates_17 : decode cX4_celebrates 17 = .ok (.aload_n 0, 1) := by decide +kernel
theorem dX4_celebrates_18 : decode cX4_celebrates 18 = .ok (.iload_n 1, 1) := by decide +kernel
theorem dX4_celebrates_19 : decode cX4_celebrates 19 = .ok (.invokevirtual 90, 3) := by decide +kernel
theorem dX4_celebrates_22 : decode cX4_celebrates 22 = .ok (.istore_n 3, 1) := by decide +kernel
theorem dX4_celebrates_23 : decode cX4_celebrates 23 = .ok (.iload_n 3, 1) := by decide +kernel
theorem dX4_celebrates_24 : decode cX4_celebrates 24 = .ok (.iconst (-1), 1) := by decide +kernel
theorem dX4_celebrates_25 : decode cX4_celebrates 25 = .ok (.if_icmp .ne 16, 3) := by decide +kernel
theorem dX4_celebrates_28 : decode cX4_celebrates 28 = .ok (.aload_n 0, 1) := by decide +kernel
theorem dX4_celebrates_29 : decode cX4_celebrates 29 = .ok (.getfield 13, 3) := by decide +kernel
theorem dX4_celebrates_32 : decode cX4_celebrates 32 = .ok (.bipush 10, 2) := by decide +kernel
theorem dX4_celebrates_34 : decode cX4_celebrates 34 = .ok (.dup2, 1) := by decide +kernel
theorem dX4_celebrates_35 : decode cX4_celebrates 35 = .ok (.iaload, 1) := by decide +kernel
theorem dX4_celebrates_36 : decode cX4_celebrates 36 = .ok (.iconst 1, 1) := by decide +kernel
theorem dX4_celebrates_37 : decode cX4_celebrates 37 = .ok (.iadd, 1) := by decide +kernel
theorem dX4_celebrates_38 : decode cX4_celebrates 38 = .ok (.iastore, 1) := by decide +kernel
theorem dX4_celebrates_39 : decode cX4_celebrates 39 = .ok (.iconst 0, 1) := by decide +kernel
theorem dX4_celebrates_40 : decode cX4_celebrates 40 = .ok (.ireturn, 1) := by decide +kernel
theorem dX4_celebrates_41 : decode cX4_celebrates 41 = .ok (.aload_n 0, 1) := by decide +kernel
theorem dX4_celebrates_42 : decode cX4_celebrates 42 = .ok (.getfield 13, 3) := by decide +kernel
theorem dX4_celebrates_45 : decode cX4_celebrates 45 = .ok (.bipush 11, 2) := by decide +kernel
theorem dX4_celebrates_47 : decode cX4_celebrates 47 = .ok (.iload_n 3, 1) := by decide +kernel
theorem dX4_celebrates_48 : decode cX4_celebrates 48 = .ok (.iadd, 1) := by decide +kernel
theorem dX4_celebrates_49 : decode cX4_celebrates 49 = .ok (.dup2, 1) := by decide +kernel
theorem dX4_celebrates_50 : decode cX4_celebrates 50 = .ok (.iaload, 1) := by decide +kernel
theorem dX4_celebrates_51 : decode cX4_celebrates 51 = .ok (.iconst 1, 1) := by decide +kernel
theorem dX4_celebrates_52 : decode cX4_celebrates 52 = .ok (.isub, 1) := by decide +kernel
theorem dX4_celebrates_53 : decode cX4_celebrates 53 = .ok (.iastore, 1) := by decide +kernel
theorem dX4_celebrates_54 : decode cX4_celebrates 54 = .ok (.aload_n 0, 1) := by decide +kernel
theorem dX4_celebrates_55 : decode cX4_celebrates 55 = .ok (.getfield 13, 3) := by decide +kernel
theorem dX4_celebrates_58 : decode cX4_celebrates 58 = .ok (.iload_n 2, 1) := by decide +kernel
theorem dX4_celebrates_59 : decode cX4_celebrates 59 = .ok (.iconst 2, 1) := by decide +kernel
theorem dX4_celebrates_60 : decode cX4_celebrates 60 = .ok (.iadd, 1) := by decide +kernel
theorem dX4_celebrates_61 : decode cX4_celebrates 61 = .ok (.iaload, 1) := by decide +kernel
theorem dX4_celebrates_62 : decode cX4_celebrates 62 = .ok (.istore 4, 2) := by decide +kernel
theorem dX4_celebrates_64 : decode cX4_celebrates 64 = .ok (.iload 4, 2) := by decide +kernel
theorem dX4_celebrates_66 : decode cX4_celebrates 66 = .ok (.aload_n 0, 1) := by decide +kernel
theorem dX4_celebrates_67 : decode cX4_celebrates 67 = .ok (.getfield 13, 3) := by decide +kernel
theorem dX4_celebrates_70 : decode cX4_celebrates 70 = .ok (.iconst 3, 1) := by decide +kernel
theorem dX4_celebrates_71 : decode cX4_celebrates 71 = .ok (.iaload, 1) := by decide +kernel
theorem dX4_celebrates_72 : decode cX4_celebrates 72 = .ok (.if_icmp .ge 8, 3) := by decide +kernel
theorem dX4_celebrates_75 : decode cX4_celebrates 75 = .ok (.iload 4, 2) := by decide +kernel
theorem dX4_celebrates_77 : decode cX4_celebrates 77 = .ok (.goto 9, 3) := by decide +kernel
theorem dX4_celebrates_80 : decode cX4_celebrates 80 = .ok (.aload_n 0, 1) := by decide +kernel
theorem dX4_celebrates_81 : decode cX4_celebrates 81 = .ok (.getfield 13, 3) := by decide +kernel
theorem dX4_celebrates_84 : decode cX4_celebrates 84 = .ok (.iconst 3, 1) := by decide +kernel
theorem dX4_celebrates_85 : decode cX4_celebrates 85 = .ok (.iaload, 1) := by decide +kernel
theorem dX4_celebrates_86 : decode cX4_celebrates 86 = .ok (.istore 5, 2) := by decide +kernel
theorem dX4_celebrates_88 : decode cX4_celebrates 88 = .ok (.aload_n 0, 1) := by decide +kernel
theorem dX4_celebrates_89 : decode cX4_celebrates 89 = .ok (.getfield 13, 3) := by decide +kernel
theorem dX4_celebrates_92 : decode cX4_celebrates 92 = .ok (.iconst 3, 1) := by decide +kernel
theorem dX4_celebrates_93 : decode cX4_celebrates 93 = .ok (.dup2, 1) := by decide +kernel
theorem dX4_celebrates_94 : decode cX4_celebrates 94 = .ok (.iaload, 1) := by decide +kernel
theorem dX4_celebrates_95 : decode cX4_celebrates 95 = .ok (.iload 5, 2) := by decide +kernel
theorem dX4_celebrates_97 : decode cX4_celebrates 97 = .ok (.isub, 1) := by decide +kernel
theorem dX4_celebrates_98 : decode cX4_celebrates 98 = .ok (.iastore, 1) := by decide +kernel
theorem dX4_celebrates_99 : decode cX4_celebrates 99 = .ok (.aload_n 0, 1) := by decide +kernel
theorem dX4_celebrates_100 : decode cX4_celebrates 100 = .ok (.getfield 13, 3) := by decide +kernel
theorem dX4_celebrates_103 : decode cX4_celebrates 103 = .ok (.bipush 8, 2) := by decide +kernel
theorem dX4_celebrates_105 : decode cX4_celebrates 105 = .ok (.dup2, 1) := by decide +kernel
theorem dX4_celebrates_106 : decode cX4_celebrates 106 = .ok (.iaload, 1) := by decide +kernel
theorem dX4_celebrates_107 : decode cX4_celebrates 107 = .ok (.iload 5, 2) := by decide +kernel
theorem dX4_celebrates_109 : decode cX4_celebrates 109 = .ok (.iadd, 1) := by decide +kernel
theorem dX4_celebrates_110 : decode cX4_celebrates 110 = .ok (.iastore, 1) := by decide +kernel
theorem dX4_celebrates_111 : decode cX4_celebrates 111 = .ok (.aload_n 0, 1) := by decide +kernel
theorem dX4_celebrates_112 : decode cX4_celebrates 112 = .ok (.getfield 13, 3) := by decide +kernel
theorem dX4_celebrates_115 : decode cX4_celebrates 115 = .ok (.bipush 9, 2) := by decide +kernel
theorem dX4_celebrates_117 : decode cX4_celebrates 117 = .ok (.dup2, 1) := by decide +kernel
theorem dX4_celebrates_118 : decode cX4_celebrates 118 = .ok (.iaload, 1) := by decide +kernel
theorem dX4_celebrates_119 : decode cX4_celebrates 119 = .ok (.iconst 1, 1) := by decide +kernel
theorem dX4_celebrates_120 : decode cX4_celebrates 120 = .ok (.iadd, 1) := by decide +kernel
theorem dX4_celebrates_121 : decode cX4_celebrates 121 = .ok (.iastore, 1) := by decide +kernel
theorem dX4_celebrates_122 : decode cX4_celebrates 122 = .ok (.aload_n 0, 1) := by decide +kernel
theorem dX4_celebrates_123 : decode cX4_celebrates 123 = .ok (.getfield 13, 3) := by decide +kernel
theorem dX4_celebrates_126 : decode cX4_celebrates 126 = .ok (.iload_n 2, 1) := by decide +kernel
theorem dX4_celebrates_127 : decode cX4_celebrates 127 = .ok (.iconst 5, 1) := by decide +kernel
theorem dX4_celebrates_128 : decode cX4_celebrates 128 = .ok (.iadd, 1) := by decide +kernel
theorem dX4_celebrates_129 : decode cX4_celebrates 129 = .ok (.dup2, 1) := by decide +kernel
theorem dX4_celebrates_130 : decode cX4_celebrates 130 = .ok (.iaload, 1) := by decide +kernel
theorem dX4_celebrates_131 : decode cX4_celebrates 131 = .ok (.iconst 1, 1) := by decide +kernel
theorem dX4_celebrates_132 : decode cX4_celebrates 132 = .ok (.iadd, 1) := by decide +kernel
theorem dX4_celebrates_133 : decode cX4_celebrates 133 = .ok (.iastore, 1) := by decide +kernel
theorem dX4_celebrates_134 : decode cX4_celebrates 134 = .ok (.aload_n 0, 1) := by decide +kernel
theorem dX4_celebrates_135 : decode cX4_celebrates 135 = .ok (.getfield 13, 3) := by decide +kernel
theorem dX4_celebrates_138 : decode cX4_celebrates 138 = .ok (.iload_n 2, 1) := by decide +kernel
theorem dX4_celebrates_139 : decode cX4_celebrates 139 = .ok (.bipush 6, 2) := by decide +kernel
theorem dX4_celebrates_141 : decode cX4_celebrates 141 = .ok (.iadd, 1) := by decide +kernel
theorem dX4_celebrates_142 : decode cX4_celebrates 142 = .ok (.dup2, 1) := by decide +kernel
theorem dX4_celebrates_143 : decode cX4_celebrates 143 = .ok (.iaload, 1) := by decide +kernel
theorem dX4_celebrates_144 : decode cX4_celebrates 144 = .ok (.iload 5, 2) := by decide +kernel
theorem dX4_celebrates_146 : decode cX4_celebrates 146 = .ok (.iload 4, 2) := by decide +kernel
theorem dX4_celebrates_148 : decode cX4_celebrates 148 = .ok (.if_icmp .ne 18, 3) := by decide +kernel
theorem dX4_celebrates_151 : decode cX4_celebrates 151 = .ok (.aload_n 0, 1) := by decide +kernel
theorem dX4_celebrates_152 : decode cX4_celebrates 152 = .ok (.iload_n 1, 1) := by decide +kernel
theorem dX4_celebrates_153 : decode cX4_celebrates 153 = .ok (.iload_n 3, 1) := by decide +kernel
theorem dX4_celebrates_154 : decode cX4_celebrates 154 = .ok (.invokevirtual 93, 3) := by decide +kernel
theorem dX4_celebrates_157 : decode cX4_celebrates 157 = .ok (.iload 5, 2) := by decide +kernel
theorem dX4_celebrates_159 : decode cX4_celebrates 159 = .ok (.if_icmp .lt 7, 3) := by decide +kernel
theorem dX4_celebrates_162 : decode cX4_celebrates 162 = .ok (.iconst 1, 1) := by decide +kernel
theorem dX4_celebrates_163 : decode cX4_celebrates 163 = .ok (.goto 4, 3) := by decide +kernel
theorem dX4_celebrates_166 : decode cX4_celebrates 166 = .ok (.iconst 0, 1) := by decide +kernel
theorem dX4_celebrates_167 : decode cX4_celebrates 167 = .ok (.iadd, 1) := by decide +kernel
theorem dX4_celebrates_168 : decode cX4_celebrates 168 = .ok (.iastore, 1) := by decide +kernel
theorem dX4_celebrates_169 : decode cX4_celebrates 169 = .ok (.iconst 1, 1) := by decide +kernel
theorem dX4_celebrates_170 : decode cX4_celebrates 170 = .ok (.ireturn, 1) := by decide +kernel
theorem dX4_passesDay_0 : decode cX4_passesDay 0 = .ok (.iconst 0, 1) := by decide +kernel
theorem dX4_passesDay_1 : decode cX4_passesDay 1 = .ok (.istore_n 1, 1) := by decide +kernel
theorem dX4_passesDay_2 : decode cX4_passesDay 2 = .ok (.aload_n 0, 1) := by decide +kernel
theorem dX4_passesDay_3 : decode cX4_passesDay 3 = .ok (.getfield 13, 3) := by decide +kernel
theorem dX4_passesDay_6 : decode cX4_passesDay 6 = .ok (.iconst 1, 1) := by decide +kernel
theorem dX4_passesDay_7 : decode cX4_passesDay 7 = .ok (.aload_n 0, 1) := by decide +kernel
theorem dX4_passesDay_8 : decode cX4_passesDay 8 = .ok (.getfield 13, 3) := by decide +kernel
theorem dX4_passesDay_11 : decode cX4_passesDay 11 = .ok (.iconst 1, 1) := by decide +kernel
theorem dX4_passesDay_12 : decode cX4_passesDay 12 = .ok (.iaload, 1) := by decide +kernel
theorem dX4_passesDay_13 : decode cX4_passesDay 13 = .ok (.iconst 1, 1) := by decide +kernel
theorem dX4_passesDay_14 : decode cX4_passesDay 14 = .ok (.iadd, 1) := by decide +kernel
theorem dX4_passesDay_15 : decode cX4_passesDay 15 = .ok (.sipush 360, 3) := by decide +kernel
theorem dX4_passesDay_18 : decode cX4_passesDay 18 = .ok (.irem, 1) := by decide +kernel
theorem dX4_passesDay_19 : decode cX4_passesDay 19 = .ok (.iastore, 1) := by decide +kernel
theorem dX4_passesDay_20 : decode cX4_passesDay 20 = .ok (.aload_n 0, 1) := by decide +kernel
theorem dX4_passesDay_21 : decode cX4_passesDay 21 = .ok (.getfield 13, 3) := by decide +kernel
theorem dX4_passesDay_24 : decode cX4_passesDay 24 = .ok (.iconst 0, 1) := by decide +kernel
theorem dX4_passesDay_25 : decode cX4_passesDay 25 = .ok (.dup2, 1) := by decide +kernel
theorem dX4_passesDay_26 : decode cX4_passesDay 26 = .ok (.iaload, 1) := by decide +kernel
theorem dX4_passesDay_27 : decode cX4_passesDay 27 = .ok (.aload_n 0, 1) := by decide +kernel
theorem dX4_passesDay_28 : decode cX4_passesDay 28 = .ok (.getfield 13, 3) := by decide +kernel
theorem dX4_passesDay_31 : decode cX4_passesDay 31 = .ok (.iconst 1, 1) := by decide +kernel
theorem dX4_passesDay_32 : decode cX4_passesDay 32 = .ok (.iaload, 1) := by decide +kernel
theorem dX4_passesDay_33 : decode cX4_passesDay 33 = .ok (.ifCond .ne 7, 3) := by decide +kernel
theorem dX4_passesDay_36 : decode cX4_passesDay 36 = .ok (.iconst 1, 1) := by decide +kernel
theorem dX4_passesDay_37 : decode cX4_passesDay 37 = .ok (.goto 4, 3) := by decide +kernel
theorem dX4_passesDay_40 : decode cX4_passesDay 40 = .ok (.iconst 0, 1) := by decide +kernel
theorem dX4_passesDay_41 : decode cX4_passesDay 41 = .ok (.iadd, 1) := by decide +kernel
theorem dX4_passesDay_42 : decode cX4_passesDay 42 = .ok (.iastore, 1) := by decide +kernel
theorem dX4_passesDay_43 : decode cX4_passesDay 43 = .ok (.iconst 0, 1) := by decide +kernel
theorem dX4_passesDay_44 : decode cX4_passesDay 44 = .ok (.istore_n 2, 1) := by decide +kernel
theorem dX4_passesDay_45 : decode cX4_passesDay 45 = .ok (.iload_n 2, 1) := by decide +kernel
theorem dX4_passesDay_46 : decode cX4_passesDay 46 = .ok (.aload_n 0, 1) := by decide +kernel
theorem dX4_passesDay_47 : decode cX4_passesDay 47 = .ok (.getfield 13, 3) := by decide +kernel
theorem dX4_passesDay_50 : decode cX4_passesDay 50 = .ok (.iconst 5, 1) := by decide +kernel
theorem dX4_passesDay_51 : decode cX4_passesDay 51 = .ok (.iaload, 1) := by decide +kernel
theorem dX4_passesDay_52 : decode cX4_passesDay 52 = .ok (.if_icmp .ge 45, 3) := by decide +kernel
theorem dX4_passesDay_55 : decode cX4_passesDay 55 = .ok (.aload_n 0, 1) := by decide +kernel
theorem dX4_passesDay_56 : decode cX4_passesDay 56 = .ok (.getfield 13, 3) := by decide +kernel
theorem dX4_passesDay_59 : decode cX4_passesDay 59 = .ok (.iload_n 2, 1) := by decide +kernel
theorem dX4_passesDay_60 : decode cX4_passesDay 60 = .ok (.invokestatic 50, 3) := by decide +kernel
theorem dX4_passesDay_63 : decode cX4_passesDay 63 = .ok (.iconst 4, 1) := by decide +kernel
theorem dX4_passesDay_64 : decode cX4_passesDay 64 = .ok (.iadd, 1) := by decide +kernel
theorem dX4_passesDay_65 : decode cX4_passesDay 65 = .ok (.iaload, 1) := by decide +kernel
theorem dX4_passesDay_66 : decode cX4_passesDay 66 = .ok (.aload_n 0, 1) := by decide +kernel
theorem dX4_passesDay_67 : decode cX4_passesDay 67 = .ok (.getfield 13, 3) := by decide +kernel
theorem dX4_passesDay_70 : decode cX4_passesDay 70 = .ok (.iconst 1, 1) := by decide +kernel
theorem dX4_passesDay_71 : decode cX4_passesDay 71 = .ok (.iaload, 1) := by decide +kernel
theorem dX4_passesDay_72 : decode cX4_passesDay 72 = .ok (.if_icmp .ne 19, 3) := by decide +kernel
theorem dX4_passesDay_75 : decode cX4_passesDay 75 = .ok (.iload_n 1, 1) := by decide +kernel
theorem dX4_passesDay_76 : decode cX4_passesDay 76 = .ok (.aload_n 0, 1) := by decide +kernel
theorem dX4_passesDay_77 : decode cX4_passesDay 77 = .ok (.iload_n 2, 1) := by decide +kernel
theorem dX4_passesDay_78 : decode cX4_passesDay 78 = .ok (.invokevirtual 97, 3) := by decide +kernel
theorem dX4_passesDay_81 : decode cX4_passesDay 81 = .ok (.ifCond .eq 7, 3) := by decide +kernel
theorem dX4_passesDay_84 : decode cX4_passesDay 84 = .ok (.iconst 1, 1) := by decide +kernel
theorem dX4_passesDay_85 : decode cX4_passesDay 85 = .ok (.goto 4, 3) := by decide +kernel
theorem dX4_passesDay_88 : decode cX4_passesDay 88 = .ok (.iconst 0, 1) := by decide +kernel
theorem dX4_passesDay_89 : decode cX4_passesDay 89 = .ok (.iadd, 1) := by decide +kernel
theorem dX4_passesDay_90 : decode cX4_passesDay 90 = .ok (.istore_n 1, 1) := by decide +kernel
theorem dX4_passesDay_91 : decode cX4_passesDay 91 = .ok (.iinc 2 1, 3) := by decide +kernel
theorem dX4_passesDay_94 : decode cX4_passesDay 94 = .ok (.goto (-49), 3) := by decide +kernel
theorem dX4_passesDay_97 : decode cX4_passesDay 97 = .ok (.iload_n 1, 1) := by decide +kernel
theorem dX4_passesDay_98 : decode cX4_passesDay 98 = .ok (.ireturn, 1) := by decide +kernel
theorem dX4_passes_0 : decode cX4_passes 0 = .ok (.iconst 0, 1) := by decide +kernel
theorem dX4_passes_1 : decode cX4_passes 1 = .ok (.istore_n 2, 1) := by decide +kernel
theorem dX4_passes_2 : decode cX4_passes 2 = .ok (.iconst 0, 1) := by decide +kernel
theorem dX4_passes_3 : decode cX4_passes 3 = .ok (.istore_n 3, 1) := by decide +kernel
theorem dX4_passes_4 : decode cX4_passes 4 = .ok (.iload_n 3, 1) := by decide +kernel
theorem dX4_passes_5 : decode cX4_passes 5 = .ok (.iload_n 1, 1) := by decide +kernel
theorem dX4_passes_6 : decode cX4_passes 6 = .ok (.if_icmp .ge 16, 3) := by decide +kernel
theorem dX4_passes_9 : decode cX4_passes 9 = .ok (.iload_n 2, 1) := by decide +kernel
theorem dX4_passes_10 : decode cX4_passes 10 = .ok (.aload_n 0, 1) := by decide +kernel
theorem dX4_passes_11 : decode cX4_passes 11 = .ok (.invokevirtual 101, 3) := by decide +kernel
theorem dX4_passes_14 : decode cX4_passes 14 = .ok (.iadd, 1) := by decide +kernel
theorem dX4_passes_15 : decode cX4_passes 15 = .ok (.istore_n 2, 1) := by decide +kernel
theorem dX4_passes_16 : decode cX4_passes 16 = .ok (.iinc 3 1, 3) := by decide +kernel
theorem dX4_passes_19 : decode cX4_passes 19 = .ok (.goto (-15), 3) := by decide +kernel
theorem dX4_passes_22 : decode cX4_passes 22 = .ok (.iload_n 2, 1) := by decide +kernel
theorem dX4_passes_23 : decode cX4_passes 23 = .ok (.ireturn, 1) := by decide +kernel
theorem dX4_isTooLate_0 : decode cX4_isTooLate 0 = .ok (.aload_n 0, 1) := by decide +kernel
theorem dX4_isTooLate_1 : decode cX4_isTooLate 1 = .ok (.getfield 13, 3) := by decide +kernel
theorem dX4_isTooLate_4 : decode cX4_isTooLate 4 = .ok (.iconst 0, 1) := by decide +kernel
theorem dX4_isTooLate_5 : decode cX4_isTooLate 5 = .ok (.iaload, 1) := by decide +kernel
theorem dX4_isTooLate_6 : decode cX4_isTooLate 6 = .ok (.sipush 360, 3) := by decide +kernel
theorem dX4_isTooLate_9 : decode cX4_isTooLate 9 = .ok (.imul, 1) := by decide +kernel
theorem dX4_isTooLate_10 : decode cX4_isTooLate 10 = .ok (.aload_n 0, 1) := by decide +kernel
theorem dX4_isTooLate_11 : decode cX4_isTooLate 11 = .ok (.getfield 13, 3) := by decide +kernel
theorem dX4_isTooLate_14 : decode cX4_isTooLate 14 = .ok (.iconst 1, 1) := by decide +kernel
theorem dX4_isTooLate_15 : decode cX4_isTooLate 15 = .ok (.iaload, 1) := by decide +kernel
theorem dX4_isTooLate_16 : decode cX4_isTooLate 16 = .ok (.iadd, 1) := by decide +kernel
theorem dX4_isTooLate_17 : decode cX4_isTooLate 17 = .ok (.iload_n 1, 1) := by decide +kernel
theorem dX4_isTooLate_18 : decode cX4_isTooLate 18 = .ok (.iadd, 1) := by decide +kernel
theorem dX4_isTooLate_19 : decode cX4_isTooLate 19 = .ok (.ldc 105, 2) := by decide +kernel
theorem dX4_isTooLate_21 : decode cX4_isTooLate 21 = .ok (.if_icmp .lt 7, 3) := by decide +kernel
theorem dX4_isTooLate_24 : decode cX4_isTooLate 24 = .ok (.iconst 1, 1) := by decide +kernel
theorem dX4_isTooLate_25 : decode cX4_isTooLate 25 = .ok (.goto 4, 3) := by decide +kernel
theorem dX4_isTooLate_28 : decode cX4_isTooLate 28 = .ok (.iconst 0, 1) := by decide +kernel
theorem dX4_isTooLate_29 : decode cX4_isTooLate 29 = .ok (.ireturn, 1) := by decide +kernel
theorem dX4_remembers_0 : decode cX4_remembers 0 = .ok (.aload_n 0, 1) := by decide +kernel
theorem dX4_remembers_1 : decode cX4_remembers 1 = .ok (.getfield 106, 3) := by decide +kernel
theorem dX4_remembers_4 : decode cX4_remembers 4 = .ok (.bipush 10, 2) := by decide +kernel
theorem dX4_remembers_6 : decode cX4_remembers 6 = .ok (.if_icmp .ne 46, 3) := by decide +kernel
theorem dX4_remembers_9 : decode cX4_remembers 9 = .ok (.sipush 151, 3) := by decide +kernel
theorem dX4_remembers_12 : decode cX4_remembers 12 = .ok (.istore_n 1, 1) := by decide +kernel
theorem dX4_remembers_13 : decode cX4_remembers 13 = .ok (.iload_n 1, 1) := by decide +kernel
theorem dX4_remembers_14 : decode cX4_remembers 14 = .ok (.sipush 1510, 3) := by decide +kernel
theorem dX4_remembers_17 : decode cX4_remembers 17 = .ok (.if_icmp .ge 25, 3) := by decide +kernel
theorem dX4_remembers_20 : decode cX4_remembers 20 = .ok (.aload_n 0, 1) := by decide +kernel
theorem dX4_remembers_21 : decode cX4_remembers 21 = .ok (.getfield 19, 3) := by decide +kernel
theorem dX4_remembers_24 : decode cX4_remembers 24 = .ok (.iload_n 1, 1) := by decide +kernel
theorem dX4_remembers_25 : decode cX4_remembers 25 = .ok (.sipush 151, 3) := by decide +kernel
theorem dX4_remembers_28 : decode cX4_remembers 28 = .ok (.isub, 1) := by decide +kernel
theorem dX4_remembers_29 : decode cX4_remembers 29 = .ok (.aload_n 0, 1) := by decide +kernel
theorem dX4_remembers_30 : decode cX4_remembers 30 = .ok (.getfield 19, 3) := by decide +kernel
theorem dX4_remembers_33 : decode cX4_remembers 33 = .ok (.iload_n 1, 1) := by decide +kernel
theorem dX4_remembers_34 : decode cX4_remembers 34 = .ok (.iaload, 1) := by decide +kernel
theorem dX4_remembers_35 : decode cX4_remembers 35 = .ok (.iastore, 1) := by decide +kernel
theorem dX4_remembers_36 : decode cX4_remembers 36 = .ok (.iinc 1 1, 3) := by decide +kernel
theorem dX4_remembers_39 : decode cX4_remembers 39 = .ok (.goto (-26), 3) := by decide +kernel
theorem dX4_remembers_42 : decode cX4_remembers 42 = .ok (.aload_n 0, 1) := by decide +kernel
theorem dX4_remembers_43 : decode cX4_remembers 43 = .ok (.dup, 1) := by decide +kernel
theorem dX4_remembers_44 : decode cX4_remembers 44 = .ok (.getfield 106, 3) := by decide +kernel
theorem dX4_remembers_47 : decode cX4_remembers 47 = .ok (.iconst 1, 1) := by decide +kernel
theorem dX4_remembers_48 : decode cX4_remembers 48 = .ok (.isub, 1) := by decide +kernel
theorem dX4_remembers_49 : decode cX4_remembers 49 = .ok (.putfield 106, 3) := by decide +kernel
theorem dX4_remembers_52 : decode cX4_remembers 52 = .ok (.iconst 0, 1) := by decide +kernel
theorem dX4_remembers_53 : decode cX4_remembers 53 = .ok (.istore_n 1, 1) := by decide +kernel
theorem dX4_remembers_54 : decode cX4_remembers 54 = .ok (.iload_n 1, 1) := by decide +kernel
theorem dX4_remembers_55 : decode cX4_remembers 55 = .ok (.sipush 151, 3) := by decide +kernel
theorem dX4_remembers_58 : decode cX4_remembers 58 = .ok (.if_icmp .ge 30, 3) := by decide +kernel
theorem dX4_remembers_61 : decode cX4_remembers 61 = .ok (.aload_n 0, 1) := by decide +kernel
theorem dX4_remembers_62 : decode cX4_remembers 62 = .ok (.getfield 19, 3) := by decide +kernel
theorem dX4_remembers_65 : decode cX4_remembers 65 = .ok (.aload_n 0, 1) := by decide +kernel
theorem dX4_remembers_66 : decode cX4_remembers 66 = .ok (.getfield 106, 3) := by decide +kernel
theorem dX4_remembers_69 : decode cX4_remembers 69 = .ok (.sipush 151, 3) := by decide +kernel
theorem dX4_remembers_72 : decode cX4_remembers 72 = .ok (.imul, 1) := by decide +kernel
theorem dX4_remembers_73 : decode cX4_remembers 73 = .ok (.iload_n 1, 1) := by decide +kernel
theorem dX4_remembers_74 : decode cX4_remembers 74 = .ok (.iadd, 1) := by decide +kernel
theorem dX4_remembers_75 : decode cX4_remembers 75 = .ok (.aload_n 0, 1) := by decide +kernel
theorem dX4_remembers_76 : decode cX4_remembers 76 = .ok (.getfield 13, 3) := by decide +kernel
theorem dX4_remembers_79 : decode cX4_remembers 79 = .ok (.iload_n 1, 1) := by decide +kernel
theorem dX4_remembers_80 : decode cX4_remembers 80 = .ok (.iaload, 1) := by decide +kernel
theorem dX4_remembers_81 : decode cX4_remembers 81 = .ok (.iastore, 1) := by decide +kernel
theorem dX4_remembers_82 : decode cX4_remembers 82 = .ok (.iinc 1 1, 3) := by decide +kernel
theorem dX4_remembers_85 : decode cX4_remembers 85 = .ok (.goto (-31), 3) := by decide +kernel
theorem dX4_remembers_88 : decode cX4_remembers 88 = .ok (.aload_n 0, 1) := by decide +kernel
theorem dX4_remembers_89 : decode cX4_remembers 89 = .ok (.dup, 1) := by decide +kernel
theorem dX4_remembers_90 : decode cX4_remembers 90 = .ok (.getfield 106, 3) := by decide +kernel
theorem dX4_remembers_93 : decode cX4_remembers 93 = .ok (.iconst 1, 1) := by decide +kernel
theorem dX4_remembers_94 : decode cX4_remembers 94 = .ok (.iadd, 1) := by decide +kernel
theorem dX4_remembers_95 : decode cX4_remembers 95 = .ok (.putfield 106, 3) := by decide +kernel
theorem dX4_remembers_98 : decode cX4_remembers 98 = .ok (.return_, 1) := by decide +kernel
theorem dX4_putsAside_0 : decode cX4_putsAside 0 = .ok (.iconst 0, 1) := by decide +kernel
theorem dX4_putsAside_1 : decode cX4_putsAside 1 = .ok (.istore_n 1, 1) := by decide +kernel
theorem dX4_putsAside_2 : decode cX4_putsAside 2 = .ok (.iload_n 1, 1) := by decide +kernel
theorem dX4_putsAside_3 : decode cX4_putsAside 3 = .ok (.sipush 151, 3) := by decide +kernel
theorem dX4_putsAside_6 : decode cX4_putsAside 6 = .ok (.if_icmp .ge 21, 3) := by decide +kernel
theorem dX4_putsAside_9 : decode cX4_putsAside 9 = .ok (.aload_n 0, 1) := by decide +kernel
theorem dX4_putsAside_10 : decode cX4_putsAside 10 = .ok (.getfield 16, 3) := by decide +kernel
theorem dX4_putsAside_13 : decode cX4_putsAside 13 = .ok (.iload_n 1, 1) := by decide +kernel
theorem dX4_putsAside_14 : decode cX4_putsAside 14 = .ok (.aload_n 0, 1) := by decide +kernel
theorem dX4_putsAside_15 : decode cX4_putsAside 15 = .ok (.getfield 13, 3) := by decide +kernel
theorem dX4_putsAside_18 : decode cX4_putsAside 18 = .ok (.iload_n 1, 1) := by decide +kernel
theorem dX4_putsAside_19 : decode cX4_putsAside 19 = .ok (.iaload, 1) := by decide +kernel
theorem dX4_putsAside_20 : decode cX4_putsAside 20 = .ok (.iastore, 1) := by decide +kernel
theorem dX4_putsAside_21 : decode cX4_putsAside 21 = .ok (.iinc 1 1, 3) := by decide +kernel
theorem dX4_putsAside_24 : decode cX4_putsAside 24 = .ok (.goto (-22), 3) := by decide +kernel
theorem dX4_putsAside_27 : decode cX4_putsAside 27 = .ok (.return_, 1) := by decide +kernel
theorem dX4_putsBack_0 : decode cX4_putsBack 0 = .ok (.iconst 0, 1) := by decide +kernel
theorem dX4_putsBack_1 : decode cX4_putsBack 1 = .ok (.istore_n 1, 1) := by decide +kernel
theorem dX4_putsBack_2 : decode cX4_putsBack 2 = .ok (.iload_n 1, 1) := by decide +kernel
theorem dX4_putsBack_3 : decode cX4_putsBack 3 = .ok (.sipush 151, 3) := by decide +kernel
theorem dX4_putsBack_6 : decode cX4_putsBack 6 = .ok (.if_icmp .ge 21, 3) := by decide +kernel
theorem dX4_putsBack_9 : decode cX4_putsBack 9 = .ok (.aload_n 0, 1) := by decide +kernel
theorem dX4_putsBack_10 : decode cX4_putsBack 10 = .ok (.getfield 13, 3) := by decide +kernel
theorem dX4_putsBack_13 : decode cX4_putsBack 13 = .ok (.iload_n 1, 1) := by decide +kernel
theorem dX4_putsBack_14 : decode cX4_putsBack 14 = .ok (.aload_n 0, 1) := by decide +kernel
theorem dX4_putsBack_15 : decode cX4_putsBack 15 = .ok (.getfield 16, 3) := by decide +kernel
theorem dX4_putsBack_18 : decode cX4_putsBack 18 = .ok (.iload_n 1, 1) := by decide +kernel
theorem dX4_putsBack_19 : decode cX4_putsBack 19 = .ok (.iaload, 1) := by decide +kernel
theorem dX4_putsBack_20 : decode cX4_putsBack 20 = .ok (.iastore, 1) := by decide +kernel
theorem dX4_putsBack_21 : decode cX4_putsBack 21 = .ok (.iinc 1 1, 3) := by decide +kernel
theorem dX4_putsBack_24 : decode cX4_putsBack 24 = .ok (.goto (-22), 3) := by decide +kernel
theorem dX4_putsBack_27 : decode cX4_putsBack 27 = .ok (.return_, 1) := by decide +kernel
theorem dX4_isLetter_0 : decode cX4_isLetter 0 = .ok (.iload_n 0, 1) := by decide +kernel
theorem dX4_isLetter_1 : decode cX4_isLetter 1 = .ok (.bipush 97, 2) := by decide +kernel
theorem dX4_isLetter_3 : decode cX4_isLetter 3 = .ok (.if_icmp .lt 13, 3) := by decide +kernel
theorem dX4_isLetter_6 : decode cX4_isLetter 6 = .ok (.iload_n 0, 1) := by decide +kernel
theorem dX4_isLetter_7 : decode cX4_isLetter 7 = .ok (.bipush 122, 2) := by decide +kernel
theorem dX4_isLetter_9 : decode cX4_isLetter 9 = .ok (.if_icmp .gt 7, 3) := by decide +kernel
theorem dX4_isLetter_12 : decode cX4_isLetter 12 = .ok (.iconst 1, 1) := by decide +kernel
theorem dX4_isLetter_13 : decode cX4_isLetter 13 = .ok (.goto 4, 3) := by decide +kernel
theorem dX4_isLetter_16 : decode cX4_isLetter 16 = .ok (.iconst 0, 1) := by decide +kernel
theorem dX4_isLetter_17 : decode cX4_isLetter 17 = .ok (.ireturn, 1) := by decide +kernel
theorem dX4_isDigit_0 : decode cX4_isDigit 0 = .ok (.iload_n 0, 1) := by decide +kernel
theorem dX4_isDigit_1 : decode cX4_isDigit 1 = .ok (.bipush 48, 2) := by decide +kernel
theorem dX4_isDigit_3 : decode cX4_isDigit 3 = .ok (.if_icmp .lt 13, 3) := by decide +kernel
theorem dX4_isDigit_6 : decode cX4_isDigit 6 = .ok (.iload_n 0, 1) := by decide +kernel
theorem dX4_isDigit_7 : decode cX4_isDigit 7 = .ok (.bipush 57, 2) := by decide +kernel
theorem dX4_isDigit_9 : decode cX4_isDigit 9 = .ok (.if_icmp .gt 7, 3) := by decide +kernel
theorem dX4_isDigit_12 : decode cX4_isDigit 12 = .ok (.iconst 1, 1) := by decide +kernel
theorem dX4_isDigit_13 : decode cX4_isDigit 13 = .ok (.goto 4, 3) := by decide +kernel
theorem dX4_isDigit_16 : decode cX4_isDigit 16 = .ok (.iconst 0, 1) := by decide +kernel
theorem dX4_isDigit_17 : decode cX4_isDigit 17 = .ok (.ireturn, 1) := by decide +kernel
theorem dX4_next_0 : decode cX4_next 0 = .ok (.aload_n 0, 1) := by decide +kernel
theorem dX4_next_1 : decode cX4_next 1 = .ok (.getfield 109, 3) := by decide +kernel
theorem dX4_next_4 : decode cX4_next 4 = .ok (.iconst 1, 1) := by decide +kernel
theorem dX4_next_5 : decode cX4_next 5 = .ok (.if_icmp .eq 11, 3) := by decide +kernel
theorem dX4_next_8 : decode cX4_next 8 = .ok (.aload_n 0, 1) := by decide +kernel
theorem dX4_next_9 : decode cX4_next 9 = .ok (.getfield 109, 3) := by decide +kernel
theorem dX4_next_12 : decode cX4_next 12 = .ok (.iconst 2, 1) := by decide +kernel
theorem dX4_next_13 : decode cX4_next 13 = .ok (.if_icmp .ne 7, 3) := by decide +kernel
theorem dX4_next_16 : decode cX4_next 16 = .ok (.iconst 1, 1) := by decide +kernel
theorem dX4_next_17 : decode cX4_next 17 = .ok (.goto 4, 3) := by decide +kernel
theorem dX4_next_20 : decode cX4_next 20 = .ok (.iconst 0, 1) := by decide +kernel
theorem dX4_next_21 : decode cX4_next 21 = .ok (.istore_n 1, 1) := by decide +kernel
theorem dX4_next_22 : decode cX4_next 22 = .ok (.aload_n 0, 1) := by decide +kernel
theorem dX4_next_23 : decode cX4_next 23 = .ok (.aload_n 0, 1) := by decide +kernel
theorem dX4_next_24 : decode cX4_next 24 = .ok (.getfield 112, 3) := by decide +kernel
theorem dX4_next_27 : decode cX4_next 27 = .ok (.putfield 115, 3) := by decide +kernel
theorem dX4_next_30 : decode cX4_next 30 = .ok (.aload_n 0, 1) := by decide +kernel
theorem dX4_next_31 : decode cX4_next 31 = .ok (.getfield 115, 3) := by decide +kernel
theorem dX4_next_34 : decode cX4_next 34 = .ok (.aload_n 0, 1) := by decide +kernel
theorem dX4_next_35 : decode cX4_next 35 = .ok (.getfield 118, 3) := by decide +kernel
theorem dX4_next_38 : decode cX4_next 38 = .ok (.if_icmp .ge 44, 3) := by decide +kernel
theorem dX4_next_41 : decode cX4_next 41 = .ok (.aload_n 0, 1) := by decide +kernel
theorem dX4_next_42 : decode cX4_next 42 = .ok (.getfield 28, 3) := by decide +kernel
theorem dX4_next_45 : decode cX4_next 45 = .ok (.aload_n 0, 1) := by decide +kernel
theorem dX4_next_46 : decode cX4_next 46 = .ok (.getfield 115, 3) := by decide +kernel
theorem dX4_next_49 : decode cX4_next 49 = .ok (.baload, 1) := by decide +kernel
theorem dX4_next_50 : decode cX4_next 50 = .ok (.bipush 32, 2) := by decide +kernel
theorem dX4_next_52 : decode cX4_next 52 = .ok (.if_icmp .eq 17, 3) := by decide +kernel
theorem dX4_next_55 : decode cX4_next 55 = .ok (.aload_n 0, 1) := by decide +kernel
theorem dX4_next_56 : decode cX4_next 56 = .ok (.getfield 28, 3) := by decide +kernel
theorem dX4_next_59 : decode cX4_next 59 = .ok (.aload_n 0, 1) := by decide +kernel
theorem dX4_next_60 : decode cX4_next 60 = .ok (.getfield 115, 3) := by decide +kernel
theorem dX4_next_63 : decode cX4_next 63 = .ok (.baload, 1) := by decide +kernel
theorem dX4_next_64 : decode cX4_next 64 = .ok (.bipush 10, 2) := by decide +kernel
theorem dX4_next_66 : decode cX4_next 66 = .ok (.if_icmp .ne 16, 3) := by decide +kernel
theorem dX4_next_69 : decode cX4_next 69 = .ok (.aload_n 0, 1) := by decide +kernel
theorem dX4_next_70 : decode cX4_next 70 = .ok (.dup, 1) := by decide +kernel
theorem dX4_next_71 : decode cX4_next 71 = .ok (.getfield 115, 3) := by decide +kernel
theorem dX4_next_74 : decode cX4_next 74 = .ok (.iconst 1, 1) := by decide +kernel
theorem dX4_next_75 : decode cX4_next 75 = .ok (.iadd, 1) := by decide +kernel
theorem dX4_next_76 : decode cX4_next 76 = .ok (.putfield 115, 3) := by decide +kernel
theorem dX4_next_79 : decode cX4_next 79 = .ok (.goto (-49), 3) := by decide +kernel
theorem dX4_next_82 : decode cX4_next 82 = .ok (.iload_n 1, 1) := by decide +kernel
theorem dX4_next_83 : decode cX4_next 83 = .ok (.ifCond .eq 18, 3) := by decide +kernel
theorem dX4_next_86 : decode cX4_next 86 = .ok (.aload_n 0, 1) := by decide +kernel
theorem dX4_next_87 : decode cX4_next 87 = .ok (.getfield 115, 3) := by decide +kernel
theorem dX4_next_90 : decode cX4_next 90 = .ok (.aload_n 0, 1) := by decide +kernel
theorem dX4_next_91 : decode cX4_next 91 = .ok (.getfield 112, 3) := by decide +kernel
theorem dX4_next_94 : decode cX4_next 94 = .ok (.if_icmp .ne 7, 3) := by decide +kernel
theorem dX4_next_97 : decode cX4_next 97 = .ok (.iconst 1, 1) := by decide +kernel
theorem dX4_next_98 : decode cX4_next 98 = .ok (.goto 4, 3) := by decide +kernel
theorem dX4_next_101 : decode cX4_next 101 = .ok (.iconst 0, 1) := by decide +kernel
theorem dX4_next_102 : decode cX4_next 102 = .ok (.istore_n 2, 1) := by decide +kernel
theorem dX4_next_103 : decode cX4_next 103 = .ok (.aload_n 0, 1) := by decide +kernel
theorem dX4_next_104 : decode cX4_next 104 = .ok (.aload_n 0, 1) := by decide +kernel
theorem dX4_next_105 : decode cX4_next 105 = .ok (.getfield 115, 3) := by decide +kernel
theorem dX4_next_108 : decode cX4_next 108 = .ok (.putfield 112, 3) := by decide +kernel
theorem dX4_next_111 : decode cX4_next 111 = .ok (.aload_n 0, 1) := by decide +kernel
theorem dX4_next_112 : decode cX4_next 112 = .ok (.getfield 115, 3) := by decide +kernel
theorem dX4_next_115 : decode cX4_next 115 = .ok (.aload_n 0, 1) := by decide +kernel
theorem dX4_next_116 : decode cX4_next 116 = .ok (.getfield 118, 3) := by decide +kernel
theorem dX4_next_119 : decode cX4_next 119 = .ok (.if_icmp .ne 11, 3) := by decide +kernel
theorem dX4_next_122 : decode cX4_next 122 = .ok (.aload_n 0, 1) := by decide +kernel
theorem dX4_next_123 : decode cX4_next 123 = .ok (.iconst 0, 1) := by decide +kernel
theorem dX4_next_124 : decode cX4_next 124 = .ok (.putfield 109, 3) := by decide +kernel
theorem dX4_next_127 : decode cX4_next 127 = .ok (.goto 231, 3) := by decide +kernel
theorem dX4_next_130 : decode cX4_next 130 = .ok (.aload_n 0, 1) := by decide +kernel
theorem dX4_next_131 : decode cX4_next 131 = .ok (.getfield 28, 3) := by decide +kernel
theorem dX4_next_134 : decode cX4_next 134 = .ok (.aload_n 0, 1) := by decide +kernel
theorem dX4_next_135 : decode cX4_next 135 = .ok (.getfield 115, 3) := by decide +kernel
theorem dX4_next_138 : decode cX4_next 138 = .ok (.baload, 1) := by decide +kernel
theorem dX4_next_139 : decode cX4_next 139 = .ok (.invokestatic 121, 3) := by decide +kernel
theorem dX4_next_142 : decode cX4_next 142 = .ok (.ifCond .eq 58, 3) := by decide +kernel
theorem dX4_next_145 : decode cX4_next 145 = .ok (.aload_n 0, 1) := by decide +kernel
theorem dX4_next_146 : decode cX4_next 146 = .ok (.getfield 112, 3) := by decide +kernel
theorem dX4_next_149 : decode cX4_next 149 = .ok (.aload_n 0, 1) := by decide +kernel
theorem dX4_next_150 : decode cX4_next 150 = .ok (.getfield 118, 3) := by decide +kernel
theorem dX4_next_153 : decode cX4_next 153 = .ok (.if_icmp .ge 31, 3) := by decide +kernel
theorem dX4_next_156 : decode cX4_next 156 = .ok (.aload_n 0, 1) := by decide +kernel
theorem dX4_next_157 : decode cX4_next 157 = .ok (.getfield 28, 3) := by decide +kernel
theorem dX4_next_160 : decode cX4_next 160 = .ok (.aload_n 0, 1) := by decide +kernel
theorem dX4_next_161 : decode cX4_next 161 = .ok (.getfield 112, 3) := by decide +kernel
theorem dX4_next_164 : decode cX4_next 164 = .ok (.baload, 1) := by decide +kernel
theorem dX4_next_165 : decode cX4_next 165 = .ok (.invokestatic 121, 3) := by decide +kernel
theorem dX4_next_168 : decode cX4_next 168 = .ok (.ifCond .eq 16, 3) := by decide +kernel
theorem dX4_next_171 : decode cX4_next 171 = .ok (.aload_n 0, 1) := by decide +kernel
theorem dX4_next_172 : decode cX4_next 172 = .ok (.dup, 1) := by decide +kernel
theorem dX4_next_173 : decode cX4_next 173 = .ok (.getfield 112, 3) := by decide +kernel
theorem dX4_next_176 : decode cX4_next 176 = .ok (.iconst 1, 1) := by decide +kernel
theorem dX4_next_177 : decode cX4_next 177 = .ok (.iadd, 1) := by decide +kernel
theorem dX4_next_178 : decode cX4_next 178 = .ok (.putfield 112, 3) := by decide +kernel
theorem dX4_next_181 : decode cX4_next 181 = .ok (.goto (-36), 3) := by decide +kernel
theorem dX4_next_184 : decode cX4_next 184 = .ok (.aload_n 0, 1) := by decide +kernel
theorem dX4_next_185 : decode cX4_next 185 = .ok (.iload_n 2, 1) := by decide +kernel
theorem dX4_next_186 : decode cX4_next 186 = .ok (.ifCond .eq 7, 3) := by decide +kernel
theorem dX4_next_189 : decode cX4_next 189 = .ok (.iconst 4, 1) := by decide +kernel
theorem dX4_next_190 : decode cX4_next 190 = .ok (.goto 4, 3) := by decide +kernel
theorem dX4_next_193 : decode cX4_next 193 = .ok (.iconst 1, 1) := by decide +kernel
theorem dX4_next_194 : decode cX4_next 194 = .ok (.putfield 109, 3) := by decide +kernel
theorem dX4_next_197 : decode cX4_next 197 = .ok (.goto 161, 3) := by decide +kernel
theorem dX4_next_200 : decode cX4_next 200 = .ok (.aload_n 0, 1) := by decide +kernel
theorem dX4_next_201 : decode cX4_next 201 = .ok (.getfield 28, 3) := by decide +kernel
theorem dX4_next_204 : decode cX4_next 204 = .ok (.aload_n 0, 1) := by decide +kernel
theorem dX4_next_205 : decode cX4_next 205 = .ok (.getfield 115, 3) := by decide +kernel
theorem dX4_next_208 : decode cX4_next 208 = .ok (.baload, 1) := by decide +kernel
theorem dX4_next_209 : decode cX4_next 209 = .ok (.invokestatic 124, 3) := by decide +kernel
theorem dX4_next_212 : decode cX4_next 212 = .ok (.ifCond .eq 113, 3) := by decide +kernel
theorem dX4_next_215 : decode cX4_next 215 = .ok (.aload_n 0, 1) := by decide +kernel
theorem dX4_next_216 : decode cX4_next 216 = .ok (.iconst 0, 1) := by decide +kernel
theorem dX4_next_217 : decode cX4_next 217 = .ok (.putfield 127, 3) := by decide +kernel
theorem dX4_next_220 : decode cX4_next 220 = .ok (.aload_n 0, 1) := by decide +kernel
theorem dX4_next_221 : decode cX4_next 221 = .ok (.getfield 112, 3) := by decide +kernel
theorem dX4_next_224 : decode cX4_next 224 = .ok (.aload_n 0, 1) := by decide +kernel
theorem dX4_next_225 : decode cX4_next 225 = .ok (.getfield 118, 3) := by decide +kernel
theorem dX4_next_228 : decode cX4_next 228 = .ok (.if_icmp .ge 68, 3) := by decide +kernel
theorem dX4_next_231 : decode cX4_next 231 = .ok (.aload_n 0, 1) := by decide +kernel
theorem dX4_next_232 : decode cX4_next 232 = .ok (.getfield 28, 3) := by decide +kernel
theorem dX4_next_235 : decode cX4_next 235 = .ok (.aload_n 0, 1) := by decide +kernel
theorem dX4_next_236 : decode cX4_next 236 = .ok (.getfield 112, 3) := by decide +kernel
theorem dX4_next_239 : decode cX4_next 239 = .ok (.baload, 1) := by decide +kernel
theorem dX4_next_240 : decode cX4_next 240 = .ok (.invokestatic 124, 3) := by decide +kernel
theorem dX4_next_243 : decode cX4_next 243 = .ok (.ifCond .eq 53, 3) := by decide +kernel
theorem dX4_next_246 : decode cX4_next 246 = .ok (.aload_n 0, 1) := by decide +kernel
theorem dX4_next_247 : decode cX4_next 247 = .ok (.getfield 112, 3) := by decide +kernel
theorem dX4_next_250 : decode cX4_next 250 = .ok (.aload_n 0, 1) := by decide +kernel
theorem dX4_next_251 : decode cX4_next 251 = .ok (.getfield 115, 3) := by decide +kernel
theorem dX4_next_254 : decode cX4_next 254 = .ok (.isub, 1) := by decide +kernel
theorem dX4_next_255 : decode cX4_next 255 = .ok (.iconst 4, 1) := by decide +kernel
theorem dX4_next_256 : decode cX4_next 256 = .ok (.if_icmp .ge 27, 3) := by decide +kernel
theorem dX4_next_259 : decode cX4_next 259 = .ok (.aload_n 0, 1) := by decide +kernel
theorem dX4_next_260 : decode cX4_next 260 = .ok (.bipush 10, 2) := by decide +kernel
theorem dX4_next_262 : decode cX4_next 262 = .ok (.aload_n 0, 1) := by decide +kernel
theorem dX4_next_263 : decode cX4_next 263 = .ok (.getfield 127, 3) := by decide +kernel
theorem dX4_next_266 : decode cX4_next 266 = .ok (.imul, 1) := by decide +kernel
theorem dX4_next_267 : decode cX4_next 267 = .ok (.aload_n 0, 1) := by decide +kernel
theorem dX4_next_268 : decode cX4_next 268 = .ok (.getfield 28, 3) := by decide +kernel
theorem dX4_next_271 : decode cX4_next 271 = .ok (.aload_n 0, 1) := by decide +kernel
theorem dX4_next_272 : decode cX4_next 272 = .ok (.getfield 112, 3) := by decide +kernel
theorem dX4_next_275 : decode cX4_next 275 = .ok (.baload, 1) := by decide +kernel
theorem dX4_next_276 : decode cX4_next 276 = .ok (.iadd, 1) := by decide +kernel
theorem dX4_next_277 : decode cX4_next 277 = .ok (.bipush 48, 2) := by decide +kernel
theorem dX4_next_279 : decode cX4_next 279 = .ok (.isub, 1) := by decide +kernel
theorem dX4_next_280 : decode cX4_next 280 = .ok (.putfield 127, 3) := by decide +kernel
theorem dX4_next_283 : decode cX4_next 283 = .ok (.aload_n 0, 1) := by decide +kernel
theorem dX4_next_284 : decode cX4_next 284 = .ok (.dup, 1) := by decide +kernel
theorem dX4_next_285 : decode cX4_next 285 = .ok (.getfield 112, 3) := by decide +kernel
theorem dX4_next_288 : decode cX4_next 288 = .ok (.iconst 1, 1) := by decide +kernel
theorem dX4_next_289 : decode cX4_next 289 = .ok (.iadd, 1) := by decide +kernel
theorem dX4_next_290 : decode cX4_next 290 = .ok (.putfield 112, 3) := by decide +kernel
theorem dX4_next_293 : decode cX4_next 293 = .ok (.goto (-73), 3) := by decide +kernel
theorem dX4_next_296 : decode cX4_next 296 = .ok (.aload_n 0, 1) := by decide +kernel
theorem dX4_next_297 : decode cX4_next 297 = .ok (.iload_n 2, 1) := by decide +kernel
theorem dX4_next_298 : decode cX4_next 298 = .ok (.ifCond .ne 16, 3) := by decide +kernel
theorem dX4_next_301 : decode cX4_next 301 = .ok (.aload_n 0, 1) := by decide +kernel
theorem dX4_next_302 : decode cX4_next 302 = .ok (.getfield 112, 3) := by decide +kernel
theorem dX4_next_305 : decode cX4_next 305 = .ok (.aload_n 0, 1) := by decide +kernel
theorem dX4_next_306 : decode cX4_next 306 = .ok (.getfield 115, 3) := by decide +kernel
theorem dX4_next_309 : decode cX4_next 309 = .ok (.isub, 1) := by decide +kernel
theorem dX4_next_310 : decode cX4_next 310 = .ok (.iconst 4, 1) := by decide +kernel
theorem dX4_next_311 : decode cX4_next 311 = .ok (.if_icmp .le 7, 3) := by decide +kernel
theorem dX4_next_314 : decode cX4_next 314 = .ok (.iconst 4, 1) := by decide +kernel
theorem dX4_next_315 : decode cX4_next 315 = .ok (.goto 4, 3) := by decide +kernel
theorem dX4_next_318 : decode cX4_next 318 = .ok (.iconst 2, 1) := by decide +kernel
theorem dX4_next_319 : decode cX4_next 319 = .ok (.putfield 109, 3) := by decide +kernel
theorem dX4_next_322 : decode cX4_next 322 = .ok (.goto 36, 3) := by decide +kernel
theorem dX4_next_325 : decode cX4_next 325 = .ok (.aload_n 0, 1) := by decide +kernel
theorem dX4_next_326 : decode cX4_next 326 = .ok (.aload_n 0, 1) := by decide +kernel
theorem dX4_next_327 : decode cX4_next 327 = .ok (.getfield 115, 3) := by decide +kernel
theorem dX4_next_330 : decode cX4_next 330 = .ok (.iconst 1, 1) := by decide +kernel
theorem dX4_next_331 : decode cX4_next 331 = .ok (.iadd, 1) := by decide +kernel
theorem dX4_next_332 : decode cX4_next 332 = .ok (.putfield 112, 3) := by decide +kernel
theorem dX4_next_335 : decode cX4_next 335 = .ok (.aload_n 0, 1) := by decide +kernel
theorem dX4_next_336 : decode cX4_next 336 = .ok (.aload_n 0, 1) := by decide +kernel
theorem dX4_next_337 : decode cX4_next 337 = .ok (.getfield 28, 3) := by decide +kernel
theorem dX4_next_340 : decode cX4_next 340 = .ok (.aload_n 0, 1) := by decide +kernel
theorem dX4_next_341 : decode cX4_next 341 = .ok (.getfield 115, 3) := by decide +kernel
theorem dX4_next_344 : decode cX4_next 344 = .ok (.baload, 1) := by decide +kernel
theorem dX4_next_345 : decode cX4_next 345 = .ok (.bipush 59, 2) := by decide +kernel
theorem dX4_next_347 : decode cX4_next 347 = .ok (.if_icmp .ne 7, 3) := by decide +kernel
theorem dX4_next_350 : decode cX4_next 350 = .ok (.iconst 3, 1) := by decide +kernel
theorem dX4_next_351 : decode cX4_next 351 = .ok (.goto 4, 3) := by decide +kernel
theorem dX4_next_354 : decode cX4_next 354 = .ok (.iconst 4, 1) := by decide +kernel
theorem dX4_next_355 : decode cX4_next 355 = .ok (.putfield 109, 3) := by decide +kernel
theorem dX4_next_358 : decode cX4_next 358 = .ok (.return_, 1) := by decide +kernel
theorem dX4_errs_0 : decode cX4_errs 0 = .ok (.aload_n 0, 1) := by decide +kernel
theorem dX4_errs_1 : decode cX4_errs 1 = .ok (.getfield 130, 3) := by decide +kernel
theorem dX4_errs_4 : decode cX4_errs 4 = .ok (.ifCond .ne 16, 3) := by decide +kernel
theorem dX4_errs_7 : decode cX4_errs 7 = .ok (.aload_n 0, 1) := by decide +kernel
theorem dX4_errs_8 : decode cX4_errs 8 = .ok (.iload_n 1, 1) := by decide +kernel
theorem dX4_errs_9 : decode cX4_errs 9 = .ok (.putfield 130, 3) := by decide +kernel
theorem dX4_errs_12 : decode cX4_errs 12 = .ok (.aload_n 0, 1) := by decide +kernel
theorem dX4_errs_13 : decode cX4_errs 13 = .ok (.aload_n 0, 1) := by decide +kernel
theorem dX4_errs_14 : decode cX4_errs 14 = .ok (.getfield 115, 3) := by decide +kernel
theorem dX4_errs_17 : decode cX4_errs 17 = .ok (.putfield 133, 3) := by decide +kernel
theorem dX4_errs_20 : decode cX4_errs 20 = .ok (.return_, 1) := by decide +kernel
theorem dX4_isKey_0 : decode cX4_isKey 0 = .ok (.aload_n 0, 1) := by decide +kernel
theorem dX4_isKey_1 : decode cX4_isKey 1 = .ok (.getfield 109, 3) := by decide +kernel
theorem dX4_isKey_4 : decode cX4_isKey 4 = .ok (.iconst 1, 1) := by decide +kernel
theorem dX4_isKey_5 : decode cX4_isKey 5 = .ok (.if_icmp .ne 17, 3) := by decide +kernel
theorem dX4_isKey_8 : decode cX4_isKey 8 = .ok (.aload_n 0, 1) := by decide +kernel
theorem dX4_isKey_9 : decode cX4_isKey 9 = .ok (.getfield 112, 3) := by decide +kernel
theorem dX4_isKey_12 : decode cX4_isKey 12 = .ok (.aload_n 0, 1) := by decide +kernel
theorem dX4_isKey_13 : decode cX4_isKey 13 = .ok (.getfield 115, 3) := by decide +kernel
theorem dX4_isKey_16 : decode cX4_isKey 16 = .ok (.isub, 1) := by decide +kernel
theorem dX4_isKey_17 : decode cX4_isKey 17 = .ok (.bipush 8, 2) := by decide +kernel
theorem dX4_isKey_19 : decode cX4_isKey 19 = .ok (.if_icmp .le 5, 3) := by decide +kernel
theorem dX4_isKey_22 : decode cX4_isKey 22 = .ok (.iconst 0, 1) := by decide +kernel
theorem dX4_isKey_23 : decode cX4_isKey 23 = .ok (.ireturn, 1) := by decide +kernel
theorem dX4_isKey_24 : decode cX4_isKey 24 = .ok (.iconst 0, 1) := by decide +kernel
theorem dX4_isKey_25 : decode cX4_isKey 25 = .ok (.istore_n 2, 1) := by decide +kernel
theorem dX4_isKey_26 : decode cX4_isKey 26 = .ok (.iload_n 2, 1) := by decide +kernel
theorem dX4_isKey_27 : decode cX4_isKey 27 = .ok (.bipush 8, 2) := by decide +kernel
theorem dX4_isKey_29 : decode cX4_isKey 29 = .ok (.if_icmp .ge 55, 3) := by decide +kernel
theorem dX4_isKey_32 : decode cX4_isKey 32 = .ok (.iload_n 2, 1) := by decide +kernel
theorem dX4_isKey_33 : decode cX4_isKey 33 = .ok (.aload_n 0, 1) := by decide +kernel
theorem dX4_isKey_34 : decode cX4_isKey 34 = .ok (.getfield 112, 3) := by decide +kernel
theorem dX4_isKey_37 : decode cX4_isKey 37 = .ok (.aload_n 0, 1) := by decide +kernel
theorem dX4_isKey_38 : decode cX4_isKey 38 = .ok (.getfield 115, 3) := by decide +kernel
theorem dX4_isKey_41 : decode cX4_isKey 41 = .ok (.isub, 1) := by decide +kernel
theorem dX4_isKey_42 : decode cX4_isKey 42 = .ok (.if_icmp .ge 17, 3) := by decide +kernel
theorem dX4_isKey_45 : decode cX4_isKey 45 = .ok (.aload_n 0, 1) := by decide +kernel
theorem dX4_isKey_46 : decode cX4_isKey 46 = .ok (.getfield 28, 3) := by decide +kernel
theorem dX4_isKey_49 : decode cX4_isKey 49 = .ok (.aload_n 0, 1) := by decide +kernel
theorem dX4_isKey_50 : decode cX4_isKey 50 = .ok (.getfield 115, 3) := by decide +kernel
theorem dX4_isKey_53 : decode cX4_isKey 53 = .ok (.iload_n 2, 1) := by decide +kernel
theorem dX4_isKey_54 : decode cX4_isKey 54 = .ok (.iadd, 1) := by decide +kernel
theorem dX4_isKey_55 : decode cX4_isKey 55 = .ok (.baload, 1) := by decide +kernel
theorem dX4_isKey_56 : decode cX4_isKey 56 = .ok (.goto 4, 3) := by decide +kernel
theorem dX4_isKey_59 : decode cX4_isKey 59 = .ok (.iconst 0, 1) := by decide +kernel
theorem dX4_isKey_60 : decode cX4_isKey 60 = .ok (.istore_n 3, 1) := by decide +kernel
theorem dX4_isKey_61 : decode cX4_isKey 61 = .ok (.iload_n 3, 1) := by decide +kernel
theorem dX4_isKey_62 : decode cX4_isKey 62 = .ok (.aload_n 0, 1) := by decide +kernel
theorem dX4_isKey_63 : decode cX4_isKey 63 = .ok (.getfield 7, 3) := by decide +kernel
theorem dX4_isKey_66 : decode cX4_isKey 66 = .ok (.bipush 8, 2) := by decide +kernel
theorem dX4_isKey_68 : decode cX4_isKey 68 = .ok (.iload_n 1, 1) := by decide +kernel
theorem dX4_isKey_69 : decode cX4_isKey 69 = .ok (.imul, 1) := by decide +kernel
theorem dX4_isKey_70 : decode cX4_isKey 70 = .ok (.iload_n 2, 1) := by decide +kernel
theorem dX4_isKey_71 : decode cX4_isKey 71 = .ok (.iadd, 1) := by decide +kernel
theorem dX4_isKey_72 : decode cX4_isKey 72 = .ok (.iaload, 1) := by decide +kernel
theorem dX4_isKey_73 : decode cX4_isKey 73 = .ok (.if_icmp .eq 5, 3) := by decide +kernel
theorem dX4_isKey_76 : decode cX4_isKey 76 = .ok (.iconst 0, 1) := by decide +kernel
theorem dX4_isKey_77 : decode cX4_isKey 77 = .ok (.ireturn, 1) := by decide +kernel
theorem dX4_isKey_78 : decode cX4_isKey 78 = .ok (.iinc 2 1, 3) := by decide +kernel
theorem dX4_isKey_81 : decode cX4_isKey 81 = .ok (.goto (-55), 3) := by decide +kernel
theorem dX4_isKey_84 : decode cX4_isKey 84 = .ok (.iconst 1, 1) := by decide +kernel
theorem dX4_isKey_85 : decode cX4_isKey 85 = .ok (.ireturn, 1) := by decide +kernel
theorem dX4_goesOn_0 : decode cX4_goesOn 0 = .ok (.aload_n 0, 1) := by decide +kernel
theorem dX4_goesOn_1 : decode cX4_goesOn 1 = .ok (.getfield 130, 3) := by decide +kernel
theorem dX4_goesOn_4 : decode cX4_goesOn 4 = .ok (.ifCond .ne 7, 3) := by decide +kernel
theorem dX4_goesOn_7 : decode cX4_goesOn 7 = .ok (.aload_n 0, 1) := by decide +kernel
theorem dX4_goesOn_8 : decode cX4_goesOn 8 = .ok (.invokevirtual 136, 3) := by decide +kernel
theorem dX4_goesOn_11 : decode cX4_goesOn 11 = .ok (.return_, 1) := by decide +kernel
theorem dX4_here_0 : decode cX4_here 0 = .ok (.aload_n 0, 1) := by decide +kernel
theorem dX4_here_1 : decode cX4_here 1 = .ok (.getfield 130, 3) := by decide +kernel
theorem dX4_here_4 : decode cX4_here 4 = .ok (.ifCond .ne 16, 3) := by decide +kernel
theorem dX4_here_7 : decode cX4_here 7 = .ok (.aload_n 0, 1) := by decide +kernel
theorem dX4_here_8 : decode cX4_here 8 = .ok (.getfield 109, 3) := by decide +kernel
theorem dX4_here_11 : decode cX4_here 11 = .ok (.iconst 2, 1) := by decide +kernel
theorem dX4_here_12 : decode cX4_here 12 = .ok (.if_icmp .eq 8, 3) := by decide +kernel
theorem dX4_here_15 : decode cX4_here 15 = .ok (.aload_n 0, 1) := by decide +kernel
theorem dX4_here_16 : decode cX4_here 16 = .ok (.iconst 1, 1) := by decide +kernel
theorem dX4_here_17 : decode cX4_here 17 = .ok (.invokevirtual 139, 3) := by decide +kernel
theorem dX4_here_20 : decode cX4_here 20 = .ok (.aload_n 0, 1) := by decide +kernel
theorem dX4_here_21 : decode cX4_here 21 = .ok (.getfield 130, 3) := by decide +kernel
theorem dX4_here_24 : decode cX4_here 24 = .ok (.ifCond .ne 20, 3) := by decide +kernel
theorem dX4_here_27 : decode cX4_here 27 = .ok (.aload_n 0, 1) := by decide +kernel
theorem dX4_here_28 : decode cX4_here 28 = .ok (.getfield 127, 3) := by decide +kernel
theorem dX4_here_31 : decode cX4_here 31 = .ok (.iload_n 1, 1) := by decide +kernel
theorem dX4_here_32 : decode cX4_here 32 = .ok (.iload_n 2, 1) := by decide +kernel
theorem dX4_here_33 : decode cX4_here 33 = .ok (.invokestatic 67, 3) := by decide +kernel
theorem dX4_here_36 : decode cX4_here 36 = .ok (.ifCond .ne 8, 3) := by decide +kernel
theorem dX4_here_39 : decode cX4_here 39 = .ok (.aload_n 0, 1) := by decide +kernel
theorem dX4_here_40 : decode cX4_here 40 = .ok (.iconst 2, 1) := by decide +kernel
theorem dX4_here_41 : decode cX4_here 41 = .ok (.invokevirtual 139, 3) := by decide +kernel
theorem dX4_here_44 : decode cX4_here 44 = .ok (.aload_n 0, 1) := by decide +kernel
theorem dX4_here_45 : decode cX4_here 45 = .ok (.getfield 130, 3) := by decide +kernel
theorem dX4_here_48 : decode cX4_here 48 = .ok (.ifCond .ne 10, 3) := by decide +kernel
theorem dX4_here_51 : decode cX4_here 51 = .ok (.aload_n 0, 1) := by decide +kernel
theorem dX4_here_52 : decode cX4_here 52 = .ok (.getfield 127, 3) := by decide +kernel
theorem dX4_here_55 : decode cX4_here 55 = .ok (.goto 4, 3) := by decide +kernel
theorem dX4_here_58 : decode cX4_here 58 = .ok (.iload_n 1, 1) := by decide +kernel
theorem dX4_here_59 : decode cX4_here 59 = .ok (.ireturn, 1) := by decide +kernel
theorem dX4_takesNumber_0 : decode cX4_takesNumber 0 = .ok (.aload_n 0, 1) := by decide +kernel
theorem dX4_takesNumber_1 : decode cX4_takesNumber 1 = .ok (.iload_n 1, 1) := by decide +kernel
theorem dX4_takesNumber_2 : decode cX4_takesNumber 2 = .ok (.iload_n 2, 1) := by decide +kernel
theorem dX4_takesNumber_3 : decode cX4_takesNumber 3 = .ok (.invokevirtual 142, 3) := by decide +kernel
theorem dX4_takesNumber_6 : decode cX4_takesNumber 6 = .ok (.istore_n 3, 1) := by decide +kernel
theorem dX4_takesNumber_7 : decode cX4_takesNumber 7 = .ok (.aload_n 0, 1) := by decide +kernel
theorem dX4_takesNumber_8 : decode cX4_takesNumber 8 = .ok (.invokevirtual 145, 3) := by decide +kernel
theorem dX4_takesNumber_11 : decode cX4_takesNumber 11 = .ok (.iload_n 3, 1) := by decide +kernel
theorem dX4_takesNumber_12 : decode cX4_takesNumber 12 = .ok (.ireturn, 1) := by decide +kernel
theorem dX4_spellsHere_0 : decode cX4_spellsHere 0 = .ok (.aload_n 0, 1) := by decide +kernel
theorem dX4_spellsHere_1 : decode cX4_spellsHere 1 = .ok (.getfield 130, 3) := by decide +kernel
theorem dX4_spellsHere_4 : decode cX4_spellsHere 4 = .ok (.ifCond .ne 30, 3) := by decide +kernel
theorem dX4_spellsHere_7 : decode cX4_spellsHere 7 = .ok (.aload_n 0, 1) := by decide +kernel
theorem dX4_spellsHere_8 : decode cX4_spellsHere 8 = .ok (.getfield 109, 3) := by decide +kernel
theorem dX4_spellsHere_11 : decode cX4_spellsHere 11 = .ok (.iconst 1, 1) := by decide +kernel
theorem dX4_spellsHere_12 : decode cX4_spellsHere 12 = .ok (.if_icmp .ne 17, 3) := by decide +kernel
theorem dX4_spellsHere_15 : decode cX4_spellsHere 15 = .ok (.aload_n 0, 1) := by decide +kernel
theorem dX4_spellsHere_16 : decode cX4_spellsHere 16 = .ok (.getfield 112, 3) := by decide +kernel
theorem dX4_spellsHere_19 : decode cX4_spellsHere 19 = .ok (.aload_n 0, 1) := by decide +kernel
theorem dX4_spellsHere_20 : decode cX4_spellsHere 20 = .ok (.getfield 115, 3) := by decide +kernel
theorem dX4_spellsHere_23 : decode cX4_spellsHere 23 = .ok (.isub, 1) := by decide +kernel
theorem dX4_spellsHere_24 : decode cX4_spellsHere 24 = .ok (.bipush 6, 2) := by decide +kernel
theorem dX4_spellsHere_26 : decode cX4_spellsHere 26 = .ok (.if_icmp .le 8, 3) := by decide +kernel
theorem dX4_spellsHere_29 : decode cX4_spellsHere 29 = .ok (.aload_n 0, 1) := by decide +kernel
theorem dX4_spellsHere_30 : decode cX4_spellsHere 30 = .ok (.iconst 1, 1) := by decide +kernel
theorem dX4_spellsHere_31 : decode cX4_spellsHere 31 = .ok (.invokevirtual 139, 3) := by decide +kernel
theorem dX4_spellsHere_34 : decode cX4_spellsHere 34 = .ok (.iconst 0, 1) := by decide +kernel
theorem dX4_spellsHere_35 : decode cX4_spellsHere 35 = .ok (.istore_n 1, 1) := by decide +kernel
theorem dX4_spellsHere_36 : decode cX4_spellsHere 36 = .ok (.iload_n 1, 1) := by decide +kernel
theorem dX4_spellsHere_37 : decode cX4_spellsHere 37 = .ok (.bipush 6, 2) := by decide +kernel
theorem dX4_spellsHere_39 : decode cX4_spellsHere 39 = .ok (.if_icmp .ge 50, 3) := by decide +kernel
theorem dX4_spellsHere_42 : decode cX4_spellsHere 42 = .ok (.aload_n 0, 1) := by decide +kernel
theorem dX4_spellsHere_43 : decode cX4_spellsHere 43 = .ok (.getfield 130, 3) := by decide +kernel
theorem dX4_spellsHere_46 : decode cX4_spellsHere 46 = .ok (.ifCond .ne 43, 3) := by decide +kernel
theorem dX4_spellsHere_49 : decode cX4_spellsHere 49 = .ok (.aload_n 0, 1) := by decide +kernel
theorem dX4_spellsHere_50 : decode cX4_spellsHere 50 = .ok (.getfield 25, 3) := by decide +kernel
theorem dX4_spellsHere_53 : decode cX4_spellsHere 53 = .ok (.iload_n 1, 1) := by decide +kernel
theorem dX4_spellsHere_54 : decode cX4_spellsHere 54 = .ok (.iload_n 1, 1) := by decide +kernel
theorem dX4_spellsHere_55 : decode cX4_spellsHere 55 = .ok (.aload_n 0, 1) := by decide +kernel
theorem dX4_spellsHere_56 : decode cX4_spellsHere 56 = .ok (.getfield 112, 3) := by decide +kernel
theorem dX4_spellsHere_59 : decode cX4_spellsHere 59 = .ok (.aload_n 0, 1) := by decide +kernel
theorem dX4_spellsHere_60 : decode cX4_spellsHere 60 = .ok (.getfield 115, 3) := by decide +kernel
theorem dX4_spellsHere_63 : decode cX4_spellsHere 63 = .ok (.isub, 1) := by decide +kernel
theorem dX4_spellsHere_64 : decode cX4_spellsHere 64 = .ok (.if_icmp .ge 17, 3) := by decide +kernel
theorem dX4_spellsHere_67 : decode cX4_spellsHere 67 = .ok (.aload_n 0, 1) := by decide +kernel
theorem dX4_spellsHere_68 : decode cX4_spellsHere 68 = .ok (.getfield 28, 3) := by decide +kernel
theorem dX4_spellsHere_71 : decode cX4_spellsHere 71 = .ok (.aload_n 0, 1) := by decide +kernel
theorem dX4_spellsHere_72 : decode cX4_spellsHere 72 = .ok (.getfield 115, 3) := by decide +kernel
theorem dX4_spellsHere_75 : decode cX4_spellsHere 75 = .ok (.iload_n 1, 1) := by decide +kernel
theorem dX4_spellsHere_76 : decode cX4_spellsHere 76 = .ok (.iadd, 1) := by decide +kernel
theorem dX4_spellsHere_77 : decode cX4_spellsHere 77 = .ok (.baload, 1) := by decide +kernel
theorem dX4_spellsHere_78 : decode cX4_spellsHere 78 = .ok (.goto 4, 3) := by decide +kernel
theorem dX4_spellsHere_81 : decode cX4_spellsHere 81 = .ok (.iconst 0, 1) := by decide +kernel
theorem dX4_spellsHere_82 : decode cX4_spellsHere 82 = .ok (.iastore, 1) := by decide +kernel
theorem dX4_spellsHere_83 : decode cX4_spellsHere 83 = .ok (.iinc 1 1, 3) := by decide +kernel
theorem dX4_spellsHere_86 : decode cX4_spellsHere 86 = .ok (.goto (-50), 3) := by decide +kernel
theorem dX4_spellsHere_89 : decode cX4_spellsHere 89 = .ok (.return_, 1) := by decide +kernel
theorem dX4_childHere_0 : decode cX4_childHere 0 = .ok (.aload_n 0, 1) := by decide +kernel
theorem dX4_childHere_1 : decode cX4_childHere 1 = .ok (.invokevirtual 148, 3) := by decide +kernel
theorem dX4_childHere_4 : decode cX4_childHere 4 = .ok (.aload_n 0, 1) := by decide +kernel
theorem dX4_childHere_5 : decode cX4_childHere 5 = .ok (.getfield 130, 3) := by decide +kernel
theorem dX4_childHere_8 : decode cX4_childHere 8 = .ok (.ifCond .ne 10, 3) := by decide +kernel
theorem dX4_childHere_11 : decode cX4_childHere 11 = .ok (.aload_n 0, 1) := by decide +kernel
theorem dX4_childHere_12 : decode cX4_childHere 12 = .ok (.invokevirtual 151, 3) := by decide +kernel
theorem dX4_childHere_15 : decode cX4_childHere 15 = .ok (.goto 4, 3) := by decide +kernel
theorem dX4_childHere_18 : decode cX4_childHere 18 = .ok (.iconst 0, 1) := by decide +kernel
theorem dX4_childHere_19 : decode cX4_childHere 19 = .ok (.istore_n 1, 1) := by decide +kernel
theorem dX4_childHere_20 : decode cX4_childHere 20 = .ok (.iload_n 1, 1) := by decide +kernel
theorem dX4_childHere_21 : decode cX4_childHere 21 = .ok (.iconst (-1), 1) := by decide +kernel
theorem dX4_childHere_22 : decode cX4_childHere 22 = .ok (.if_icmp .ne 8, 3) := by decide +kernel
theorem dX4_childHere_25 : decode cX4_childHere 25 = .ok (.aload_n 0, 1) := by decide +kernel
theorem dX4_childHere_26 : decode cX4_childHere 26 = .ok (.iconst 3, 1) := by decide +kernel
theorem dX4_childHere_27 : decode cX4_childHere 27 = .ok (.invokevirtual 139, 3) := by decide +kernel
theorem dX4_childHere_30 : decode cX4_childHere 30 = .ok (.aload_n 0, 1) := by decide +kernel
theorem dX4_childHere_31 : decode cX4_childHere 31 = .ok (.getfield 130, 3) := by decide +kernel
theorem dX4_childHere_34 : decode cX4_childHere 34 = .ok (.ifCond .ne 7, 3) := by decide +kernel
theorem dX4_childHere_37 : decode cX4_childHere 37 = .ok (.iload_n 1, 1) := by decide +kernel
theorem dX4_childHere_38 : decode cX4_childHere 38 = .ok (.goto 4, 3) := by decide +kernel
theorem dX4_childHere_41 : decode cX4_childHere 41 = .ok (.iconst 0, 1) := by decide +kernel
theorem dX4_childHere_42 : decode cX4_childHere 42 = .ok (.ireturn, 1) := by decide +kernel
theorem dX4_readsGarden_0 : decode cX4_readsGarden 0 = .ok (.aload_n 0, 1) := by decide +kernel
theorem dX4_readsGarden_1 : decode cX4_readsGarden 1 = .ok (.getfield 13, 3) := by decide +kernel
theorem dX4_readsGarden_4 : decode cX4_readsGarden 4 = .ok (.iconst 4, 1) := by decide +kernel
theorem dX4_readsGarden_5 : decode cX4_readsGarden 5 = .ok (.iaload, 1) := by decide +kernel
theorem dX4_readsGarden_6 : decode cX4_readsGarden 6 = .ok (.iconst 4, 1) := by decide +kernel
theorem dX4_readsGarden_7 : decode cX4_readsGarden 7 = .ok (.if_icmp .ne 9, 3) := by decide +kernel
theorem dX4_readsGarden_10 : decode cX4_readsGarden 10 = .ok (.aload_n 0, 1) := by decide +kernel
theorem dX4_readsGarden_11 : decode cX4_readsGarden 11 = .ok (.iconst 5, 1) := by decide +kernel
theorem dX4_readsGarden_12 : decode cX4_readsGarden 12 = .ok (.invokevirtual 139, 3) := by decide +kernel
theorem dX4_readsGarden_15 : decode cX4_readsGarden 15 = .ok (.return_, 1) := by decide +kernel
theorem dX4_readsGarden_16 : decode cX4_readsGarden 16 = .ok (.aload_n 0, 1) := by decide +kernel
theorem dX4_readsGarden_17 : decode cX4_readsGarden 17 = .ok (.invokevirtual 136, 3) := by decide +kernel
theorem dX4_readsGarden_20 : decode cX4_readsGarden 20 = .ok (.aload_n 0, 1) := by decide +kernel
theorem dX4_readsGarden_21 : decode cX4_readsGarden 21 = .ok (.iconst 1, 1) := by decide +kernel
theorem dX4_readsGarden_22 : decode cX4_readsGarden 22 = .ok (.bipush 12, 2) := by decide +kernel
theorem dX4_readsGarden_24 : decode cX4_readsGarden 24 = .ok (.invokevirtual 154, 3) := by decide +kernel
theorem dX4_readsGarden_27 : decode cX4_readsGarden 27 = .ok (.istore_n 1, 1) := by decide +kernel
theorem dX4_readsGarden_28 : decode cX4_readsGarden 28 = .ok (.aload_n 0, 1) := by decide +kernel
theorem dX4_readsGarden_29 : decode cX4_readsGarden 29 = .ok (.getfield 130, 3) := by decide +kernel
theorem dX4_readsGarden_32 : decode cX4_readsGarden 32 = .ok (.ifCond .ne 8, 3) := by decide +kernel
theorem dX4_readsGarden_35 : decode cX4_readsGarden 35 = .ok (.aload_n 0, 1) := by decide +kernel
theorem dX4_readsGarden_36 : decode cX4_readsGarden 36 = .ok (.iload_n 1, 1) := by decide +kernel
theorem dX4_readsGarden_37 : decode cX4_readsGarden 37 = .ok (.invokevirtual 39, 3) := by decide +kernel
theorem dX4_readsGarden_40 : decode cX4_readsGarden 40 = .ok (.return_, 1) := by decide +kernel
theorem dX4_readsChild_0 : decode cX4_readsChild 0 = .ok (.aload_n 0, 1) := by decide +kernel
theorem dX4_readsChild_1 : decode cX4_readsChild 1 = .ok (.getfield 13, 3) := by decide +kernel
theorem dX4_readsChild_4 : decode cX4_readsChild 4 = .ok (.iconst 5, 1) := by decide +kernel
theorem dX4_readsChild_5 : decode cX4_readsChild 5 = .ok (.iaload, 1) := by decide +kernel
theorem dX4_readsChild_6 : decode cX4_readsChild 6 = .ok (.bipush 10, 2) := by decide +kernel
theorem dX4_readsChild_8 : decode cX4_readsChild 8 = .ok (.if_icmp .ne 9, 3) := by decide +kernel
theorem dX4_readsChild_11 : decode cX4_readsChild 11 = .ok (.aload_n 0, 1) := by decide +kernel
theorem dX4_readsChild_12 : decode cX4_readsChild 12 = .ok (.iconst 5, 1) := by decide +kernel
theorem dX4_readsChild_13 : decode cX4_readsChild 13 = .ok (.invokevirtual 139, 3) := by decide +kernel
theorem dX4_readsChild_16 : decode cX4_readsChild 16 = .ok (.return_, 1) := by decide +kernel
theorem dX4_readsChild_17 : decode cX4_readsChild 17 = .ok (.aload_n 0, 1) := by decide +kernel
theorem dX4_readsChild_18 : decode cX4_readsChild 18 = .ok (.invokevirtual 136, 3) := by decide +kernel
theorem dX4_readsChild_21 : decode cX4_readsChild 21 = .ok (.aload_n 0, 1) := by decide +kernel
theorem dX4_readsChild_22 : decode cX4_readsChild 22 = .ok (.invokevirtual 148, 3) := by decide +kernel
theorem dX4_readsChild_25 : decode cX4_readsChild 25 = .ok (.aload_n 0, 1) := by decide +kernel
theorem dX4_readsChild_26 : decode cX4_readsChild 26 = .ok (.getfield 130, 3) := by decide +kernel
theorem dX4_readsChild_29 : decode cX4_readsChild 29 = .ok (.ifCond .ne 16, 3) := by decide +kernel
theorem dX4_readsChild_32 : decode cX4_readsChild 32 = .ok (.aload_n 0, 1) := by decide +kernel
theorem dX4_readsChild_33 : decode cX4_readsChild 33 = .ok (.invokevirtual 151, 3) := by decide +kernel
theorem dX4_readsChild_36 : decode cX4_readsChild 36 = .ok (.iconst (-1), 1) := by decide +kernel
theorem dX4_readsChild_37 : decode cX4_readsChild 37 = .ok (.if_icmp .eq 8, 3) := by decide +kernel
theorem dX4_readsChild_40 : decode cX4_readsChild 40 = .ok (.aload_n 0, 1) := by decide +kernel
theorem dX4_readsChild_41 : decode cX4_readsChild 41 = .ok (.iconst 4, 1) := by decide +kernel
theorem dX4_readsChild_42 : decode cX4_readsChild 42 = .ok (.invokevirtual 139, 3) := by decide +kernel
theorem dX4_readsChild_45 : decode cX4_readsChild 45 = .ok (.aload_n 0, 1) := by decide +kernel
theorem dX4_readsChild_46 : decode cX4_readsChild 46 = .ok (.invokevirtual 145, 3) := by decide +kernel
theorem dX4_readsChild_49 : decode cX4_readsChild 49 = .ok (.aload_n 0, 1) := by decide +kernel
theorem dX4_readsChild_50 : decode cX4_readsChild 50 = .ok (.iconst 0, 1) := by decide +kernel
theorem dX4_readsChild_51 : decode cX4_readsChild 51 = .ok (.iconst 5, 1) := by decide +kernel
theorem dX4_readsChild_52 : decode cX4_readsChild 52 = .ok (.invokevirtual 154, 3) := by decide +kernel
theorem dX4_readsChild_55 : decode cX4_readsChild 55 = .ok (.istore_n 1, 1) := by decide +kernel
theorem dX4_readsChild_56 : decode cX4_readsChild 56 = .ok (.aload_n 0, 1) := by decide +kernel
theorem dX4_readsChild_57 : decode cX4_readsChild 57 = .ok (.iconst 1, 1) := by decide +kernel
theorem dX4_readsChild_58 : decode cX4_readsChild 58 = .ok (.bipush 20, 2) := by decide +kernel
theorem dX4_readsChild_60 : decode cX4_readsChild 60 = .ok (.invokevirtual 154, 3) := by decide +kernel
theorem dX4_readsChild_63 : decode cX4_readsChild 63 = .ok (.istore_n 2, 1) := by decide +kernel
theorem dX4_readsChild_64 : decode cX4_readsChild 64 = .ok (.aload_n 0, 1) := by decide +kernel
theorem dX4_readsChild_65 : decode cX4_readsChild 65 = .ok (.iconst 0, 1) := by decide +kernel
theorem dX4_readsChild_66 : decode cX4_readsChild 66 = .ok (.bipush 99, 2) := by decide +kernel
theorem dX4_readsChild_68 : decode cX4_readsChild 68 = .ok (.invokevirtual 154, 3) := by decide +kernel
theorem dX4_readsChild_71 : decode cX4_readsChild 71 = .ok (.istore_n 3, 1) := by decide +kernel
theorem dX4_readsChild_72 : decode cX4_readsChild 72 = .ok (.aload_n 0, 1) := by decide +kernel
theorem dX4_readsChild_73 : decode cX4_readsChild 73 = .ok (.iconst 0, 1) := by decide +kernel
theorem dX4_readsChild_74 : decode cX4_readsChild 74 = .ok (.aload_n 0, 1) := by decide +kernel
theorem dX4_readsChild_75 : decode cX4_readsChild 75 = .ok (.getfield 13, 3) := by decide +kernel
theorem dX4_readsChild_78 : decode cX4_readsChild 78 = .ok (.iconst 4, 1) := by decide +kernel
theorem dX4_readsChild_79 : decode cX4_readsChild 79 = .ok (.iaload, 1) := by decide +kernel
theorem dX4_readsChild_80 : decode cX4_readsChild 80 = .ok (.iconst 1, 1) := by decide +kernel
theorem dX4_readsChild_81 : decode cX4_readsChild 81 = .ok (.isub, 1) := by decide +kernel
theorem dX4_readsChild_82 : decode cX4_readsChild 82 = .ok (.invokevirtual 154, 3) := by decide +kernel
theorem dX4_readsChild_85 : decode cX4_readsChild 85 = .ok (.istore 4, 2) := by decide +kernel
theorem dX4_readsChild_87 : decode cX4_readsChild 87 = .ok (.aload_n 0, 1) := by decide +kernel
theorem dX4_readsChild_88 : decode cX4_readsChild 88 = .ok (.getfield 130, 3) := by decide +kernel
theorem dX4_readsChild_91 : decode cX4_readsChild 91 = .ok (.ifCond .ne 12, 3) := by decide +kernel
theorem dX4_readsChild_94 : decode cX4_readsChild 94 = .ok (.aload_n 0, 1) := by decide +kernel
theorem dX4_readsChild_95 : decode cX4_readsChild 95 = .ok (.iload_n 1, 1) := by decide +kernel
theorem dX4_readsChild_96 : decode cX4_readsChild 96 = .ok (.iload_n 2, 1) := by decide +kernel
theorem dX4_readsChild_97 : decode cX4_readsChild 97 = .ok (.iload_n 3, 1) := by decide +kernel
theorem dX4_readsChild_98 : decode cX4_readsChild 98 = .ok (.iload 4, 2) := by decide +kernel
theorem dX4_readsChild_100 : decode cX4_readsChild 100 = .ok (.invokevirtual 46, 3) := by decide +kernel
theorem dX4_readsChild_103 : decode cX4_readsChild 103 = .ok (.return_, 1) := by decide +kernel
theorem dX4_readsBirthday_0 : decode cX4_readsBirthday 0 = .ok (.aload_n 0, 1) := by decide +kernel
theorem dX4_readsBirthday_1 : decode cX4_readsBirthday 1 = .ok (.invokevirtual 136, 3) := by decide +kernel
theorem dX4_readsBirthday_4 : decode cX4_readsBirthday 4 = .ok (.aload_n 0, 1) := by decide +kernel
theorem dX4_readsBirthday_5 : decode cX4_readsBirthday 5 = .ok (.invokevirtual 157, 3) := by decide +kernel
theorem dX4_readsBirthday_8 : decode cX4_readsBirthday 8 = .ok (.istore_n 1, 1) := by decide +kernel
theorem dX4_readsBirthday_9 : decode cX4_readsBirthday 9 = .ok (.aload_n 0, 1) := by decide +kernel
theorem dX4_readsBirthday_10 : decode cX4_readsBirthday 10 = .ok (.invokevirtual 145, 3) := by decide +kernel
theorem dX4_readsBirthday_13 : decode cX4_readsBirthday 13 = .ok (.aload_n 0, 1) := by decide +kernel
theorem dX4_readsBirthday_14 : decode cX4_readsBirthday 14 = .ok (.iconst 1, 1) := by decide +kernel
theorem dX4_readsBirthday_15 : decode cX4_readsBirthday 15 = .ok (.bipush 12, 2) := by decide +kernel
theorem dX4_readsBirthday_17 : decode cX4_readsBirthday 17 = .ok (.invokevirtual 154, 3) := by decide +kernel
theorem dX4_readsBirthday_20 : decode cX4_readsBirthday 20 = .ok (.istore_n 2, 1) := by decide +kernel
theorem dX4_readsBirthday_21 : decode cX4_readsBirthday 21 = .ok (.aload_n 0, 1) := by decide +kernel
theorem dX4_readsBirthday_22 : decode cX4_readsBirthday 22 = .ok (.iconst 1, 1) := by decide +kernel
theorem dX4_readsBirthday_23 : decode cX4_readsBirthday 23 = .ok (.bipush 30, 2) := by decide +kernel
theorem dX4_readsBirthday_25 : decode cX4_readsBirthday 25 = .ok (.invokevirtual 142, 3) := by decide +kernel
theorem dX4_readsBirthday_28 : decode cX4_readsBirthday 28 = .ok (.istore_n 3, 1) := by decide +kernel
theorem dX4_readsBirthday_29 : decode cX4_readsBirthday 29 = .ok (.aload_n 0, 1) := by decide +kernel
theorem dX4_readsBirthday_30 : decode cX4_readsBirthday 30 = .ok (.getfield 130, 3) := by decide +kernel
theorem dX4_readsBirthday_33 : decode cX4_readsBirthday 33 = .ok (.ifCond .ne 33, 3) := by decide +kernel
theorem dX4_readsBirthday_36 : decode cX4_readsBirthday 36 = .ok (.aload_n 0, 1) := by decide +kernel
theorem dX4_readsBirthday_37 : decode cX4_readsBirthday 37 = .ok (.iload_n 1, 1) := by decide +kernel
theorem dX4_readsBirthday_38 : decode cX4_readsBirthday 38 = .ok (.aload_n 0, 1) := by decide +kernel
theorem dX4_readsBirthday_39 : decode cX4_readsBirthday 39 = .ok (.getfield 13, 3) := by decide +kernel
theorem dX4_readsBirthday_42 : decode cX4_readsBirthday 42 = .ok (.iload_n 1, 1) := by decide +kernel
theorem dX4_readsBirthday_43 : decode cX4_readsBirthday 43 = .ok (.invokestatic 50, 3) := by decide +kernel
theorem dX4_readsBirthday_46 : decode cX4_readsBirthday 46 = .ok (.iconst 3, 1) := by decide +kernel
theorem dX4_readsBirthday_47 : decode cX4_readsBirthday 47 = .ok (.iadd, 1) := by decide +kernel
theorem dX4_readsBirthday_48 : decode cX4_readsBirthday 48 = .ok (.iaload, 1) := by decide +kernel
theorem dX4_readsBirthday_49 : decode cX4_readsBirthday 49 = .ok (.iload_n 2, 1) := by decide +kernel
theorem dX4_readsBirthday_50 : decode cX4_readsBirthday 50 = .ok (.iload_n 3, 1) := by decide +kernel
theorem dX4_readsBirthday_51 : decode cX4_readsBirthday 51 = .ok (.invokestatic 160, 3) := by decide +kernel
theorem dX4_readsBirthday_54 : decode cX4_readsBirthday 54 = .ok (.invokevirtual 86, 3) := by decide +kernel
theorem dX4_readsBirthday_57 : decode cX4_readsBirthday 57 = .ok (.ifCond .eq 9, 3) := by decide +kernel
theorem dX4_readsBirthday_60 : decode cX4_readsBirthday 60 = .ok (.aload_n 0, 1) := by decide +kernel
theorem dX4_readsBirthday_61 : decode cX4_readsBirthday 61 = .ok (.bipush 6, 2) := by decide +kernel
theorem dX4_readsBirthday_63 : decode cX4_readsBirthday 63 = .ok (.invokevirtual 139, 3) := by decide +kernel
theorem dX4_readsBirthday_66 : decode cX4_readsBirthday 66 = .ok (.aload_n 0, 1) := by decide +kernel
theorem dX4_readsBirthday_67 : decode cX4_readsBirthday 67 = .ok (.getfield 130, 3) := by decide +kernel
theorem dX4_readsBirthday_70 : decode cX4_readsBirthday 70 = .ok (.ifCond .ne 23, 3) := by decide +kernel
theorem dX4_readsBirthday_73 : decode cX4_readsBirthday 73 = .ok (.aload_n 0, 1) := by decide +kernel
theorem dX4_readsBirthday_74 : decode cX4_readsBirthday 74 = .ok (.getfield 13, 3) := by decide +kernel
theorem dX4_readsBirthday_77 : decode cX4_readsBirthday 77 = .ok (.iload_n 1, 1) := by decide +kernel
theorem dX4_readsBirthday_78 : decode cX4_readsBirthday 78 = .ok (.invokestatic 50, 3) := by decide +kernel
theorem dX4_readsBirthday_81 : decode cX4_readsBirthday 81 = .ok (.iconst 4, 1) := by decide +kernel
theorem dX4_readsBirthday_82 : decode cX4_readsBirthday 82 = .ok (.iadd, 1) := by decide +kernel
theorem dX4_readsBirthday_83 : decode cX4_readsBirthday 83 = .ok (.iload_n 2, 1) := by decide +kernel
theorem dX4_readsBirthday_84 : decode cX4_readsBirthday 84 = .ok (.iload_n 3, 1) := by decide +kernel
theorem dX4_readsBirthday_85 : decode cX4_readsBirthday 85 = .ok (.invokestatic 160, 3) := by decide +kernel
theorem dX4_readsBirthday_88 : decode cX4_readsBirthday 88 = .ok (.iastore, 1) := by decide +kernel
theorem dX4_readsBirthday_89 : decode cX4_readsBirthday 89 = .ok (.aload_n 0, 1) := by decide +kernel
theorem dX4_readsBirthday_90 : decode cX4_readsBirthday 90 = .ok (.invokevirtual 136, 3) := by decide +kernel
theorem dX4_readsBirthday_93 : decode cX4_readsBirthday 93 = .ok (.return_, 1) := by decide +kernel
theorem dX4_readsDraw_0 : decode cX4_readsDraw 0 = .ok (.aload_n 0, 1) := by decide +kernel
theorem dX4_readsDraw_1 : decode cX4_readsDraw 1 = .ok (.invokevirtual 136, 3) := by decide +kernel
theorem dX4_readsDraw_4 : decode cX4_readsDraw 4 = .ok (.aload_n 0, 1) := by decide +kernel
theorem dX4_readsDraw_5 : decode cX4_readsDraw 5 = .ok (.invokevirtual 157, 3) := by decide +kernel
theorem dX4_readsDraw_8 : decode cX4_readsDraw 8 = .ok (.istore_n 1, 1) := by decide +kernel
theorem dX4_readsDraw_9 : decode cX4_readsDraw 9 = .ok (.aload_n 0, 1) := by decide +kernel
theorem dX4_readsDraw_10 : decode cX4_readsDraw 10 = .ok (.getfield 130, 3) := by decide +kernel
theorem dX4_readsDraw_13 : decode cX4_readsDraw 13 = .ok (.ifCond .ne 11, 3) := by decide +kernel
theorem dX4_readsDraw_16 : decode cX4_readsDraw 16 = .ok (.aload_n 0, 1) := by decide +kernel
theorem dX4_readsDraw_17 : decode cX4_readsDraw 17 = .ok (.iload_n 1, 1) := by decide +kernel
theorem dX4_readsDraw_18 : decode cX4_readsDraw 18 = .ok (.invokevirtual 54, 3) := by decide +kernel
theorem dX4_readsDraw_21 : decode cX4_readsDraw 21 = .ok (.goto 4, 3) := by decide +kernel
theorem dX4_readsDraw_24 : decode cX4_readsDraw 24 = .ok (.iconst 1, 1) := by decide +kernel
theorem dX4_readsDraw_25 : decode cX4_readsDraw 25 = .ok (.istore_n 2, 1) := by decide +kernel
theorem dX4_readsDraw_26 : decode cX4_readsDraw 26 = .ok (.iload_n 2, 1) := by decide +kernel
theorem dX4_readsDraw_27 : decode cX4_readsDraw 27 = .ok (.iconst (-1), 1) := by decide +kernel
theorem dX4_readsDraw_28 : decode cX4_readsDraw 28 = .ok (.if_icmp .ne 9, 3) := by decide +kernel
theorem dX4_readsDraw_31 : decode cX4_readsDraw 31 = .ok (.aload_n 0, 1) := by decide +kernel
theorem dX4_readsDraw_32 : decode cX4_readsDraw 32 = .ok (.bipush 6, 2) := by decide +kernel
theorem dX4_readsDraw_34 : decode cX4_readsDraw 34 = .ok (.invokevirtual 139, 3) := by decide +kernel
theorem dX4_readsDraw_37 : decode cX4_readsDraw 37 = .ok (.aload_n 0, 1) := by decide +kernel
theorem dX4_readsDraw_38 : decode cX4_readsDraw 38 = .ok (.getfield 130, 3) := by decide +kernel
theorem dX4_readsDraw_41 : decode cX4_readsDraw 41 = .ok (.ifCond .ne 13, 3) := by decide +kernel
theorem dX4_readsDraw_44 : decode cX4_readsDraw 44 = .ok (.aload_n 0, 1) := by decide +kernel
theorem dX4_readsDraw_45 : decode cX4_readsDraw 45 = .ok (.iload_n 1, 1) := by decide +kernel
theorem dX4_readsDraw_46 : decode cX4_readsDraw 46 = .ok (.iload_n 2, 1) := by decide +kernel
theorem dX4_readsDraw_47 : decode cX4_readsDraw 47 = .ok (.invokevirtual 57, 3) := by decide +kernel
theorem dX4_readsDraw_50 : decode cX4_readsDraw 50 = .ok (.aload_n 0, 1) := by decide +kernel
theorem dX4_readsDraw_51 : decode cX4_readsDraw 51 = .ok (.invokevirtual 136, 3) := by decide +kernel
theorem dX4_readsDraw_54 : decode cX4_readsDraw 54 = .ok (.return_, 1) := by decide +kernel
theorem dX4_readsCakes_0 : decode cX4_readsCakes 0 = .ok (.aload_n 0, 1) := by decide +kernel
theorem dX4_readsCakes_1 : decode cX4_readsCakes 1 = .ok (.invokevirtual 136, 3) := by decide +kernel
theorem dX4_readsCakes_4 : decode cX4_readsCakes 4 = .ok (.aload_n 0, 1) := by decide +kernel
theorem dX4_readsCakes_5 : decode cX4_readsCakes 5 = .ok (.iconst 0, 1) := by decide +kernel
theorem dX4_readsCakes_6 : decode cX4_readsCakes 6 = .ok (.iconst 5, 1) := by decide +kernel
theorem dX4_readsCakes_7 : decode cX4_readsCakes 7 = .ok (.invokevirtual 154, 3) := by decide +kernel
theorem dX4_readsCakes_10 : decode cX4_readsCakes 10 = .ok (.istore_n 1, 1) := by decide +kernel
theorem dX4_readsCakes_11 : decode cX4_readsCakes 11 = .ok (.bipush 99, 2) := by decide +kernel
theorem dX4_readsCakes_13 : decode cX4_readsCakes 13 = .ok (.aload_n 0, 1) := by decide +kernel
theorem dX4_readsCakes_14 : decode cX4_readsCakes 14 = .ok (.getfield 13, 3) := by decide +kernel
theorem dX4_readsCakes_17 : decode cX4_readsCakes 17 = .ok (.bipush 11, 2) := by decide +kernel
theorem dX4_readsCakes_19 : decode cX4_readsCakes 19 = .ok (.iload_n 1, 1) := by decide +kernel
theorem dX4_readsCakes_20 : decode cX4_readsCakes 20 = .ok (.iadd, 1) := by decide +kernel
theorem dX4_readsCakes_21 : decode cX4_readsCakes 21 = .ok (.iaload, 1) := by decide +kernel
theorem dX4_readsCakes_22 : decode cX4_readsCakes 22 = .ok (.isub, 1) := by decide +kernel
theorem dX4_readsCakes_23 : decode cX4_readsCakes 23 = .ok (.istore_n 2, 1) := by decide +kernel
theorem dX4_readsCakes_24 : decode cX4_readsCakes 24 = .ok (.aload_n 0, 1) := by decide +kernel
theorem dX4_readsCakes_25 : decode cX4_readsCakes 25 = .ok (.iconst 1, 1) := by decide +kernel
theorem dX4_readsCakes_26 : decode cX4_readsCakes 26 = .ok (.iload_n 2, 1) := by decide +kernel
theorem dX4_readsCakes_27 : decode cX4_readsCakes 27 = .ok (.invokevirtual 154, 3) := by decide +kernel
theorem dX4_readsCakes_30 : decode cX4_readsCakes 30 = .ok (.istore_n 3, 1) := by decide +kernel
theorem dX4_readsCakes_31 : decode cX4_readsCakes 31 = .ok (.aload_n 0, 1) := by decide +kernel
theorem dX4_readsCakes_32 : decode cX4_readsCakes 32 = .ok (.getfield 130, 3) := by decide +kernel
theorem dX4_readsCakes_35 : decode cX4_readsCakes 35 = .ok (.ifCond .ne 16, 3) := by decide +kernel
theorem dX4_readsCakes_38 : decode cX4_readsCakes 38 = .ok (.aload_n 0, 1) := by decide +kernel
theorem dX4_readsCakes_39 : decode cX4_readsCakes 39 = .ok (.getfield 13, 3) := by decide +kernel
theorem dX4_readsCakes_42 : decode cX4_readsCakes 42 = .ok (.bipush 11, 2) := by decide +kernel
theorem dX4_readsCakes_44 : decode cX4_readsCakes 44 = .ok (.iload_n 1, 1) := by decide +kernel
theorem dX4_readsCakes_45 : decode cX4_readsCakes 45 = .ok (.iadd, 1) := by decide +kernel
theorem dX4_readsCakes_46 : decode cX4_readsCakes 46 = .ok (.dup2, 1) := by decide +kernel
theorem dX4_readsCakes_47 : decode cX4_readsCakes 47 = .ok (.iaload, 1) := by decide +kernel
theorem dX4_readsCakes_48 : decode cX4_readsCakes 48 = .ok (.iload_n 3, 1) := by decide +kernel
theorem dX4_readsCakes_49 : decode cX4_readsCakes 49 = .ok (.iadd, 1) := by decide +kernel
theorem dX4_readsCakes_50 : decode cX4_readsCakes 50 = .ok (.iastore, 1) := by decide +kernel
theorem dX4_readsCakes_51 : decode cX4_readsCakes 51 = .ok (.return_, 1) := by decide +kernel
theorem dX4_readsDays_0 : decode cX4_readsDays 0 = .ok (.aload_n 0, 1) := by decide +kernel
theorem dX4_readsDays_1 : decode cX4_readsDays 1 = .ok (.invokevirtual 136, 3) := by decide +kernel
theorem dX4_readsDays_4 : decode cX4_readsDays 4 = .ok (.aload_n 0, 1) := by decide +kernel
theorem dX4_readsDays_5 : decode cX4_readsDays 5 = .ok (.iconst 1, 1) := by decide +kernel
theorem dX4_readsDays_6 : decode cX4_readsDays 6 = .ok (.sipush 720, 3) := by decide +kernel
theorem dX4_readsDays_9 : decode cX4_readsDays 9 = .ok (.invokevirtual 142, 3) := by decide +kernel
theorem dX4_readsDays_12 : decode cX4_readsDays 12 = .ok (.istore_n 1, 1) := by decide +kernel
theorem dX4_readsDays_13 : decode cX4_readsDays 13 = .ok (.aload_n 0, 1) := by decide +kernel
theorem dX4_readsDays_14 : decode cX4_readsDays 14 = .ok (.getfield 130, 3) := by decide +kernel
theorem dX4_readsDays_17 : decode cX4_readsDays 17 = .ok (.ifCond .ne 16, 3) := by decide +kernel
theorem dX4_readsDays_20 : decode cX4_readsDays 20 = .ok (.aload_n 0, 1) := by decide +kernel
theorem dX4_readsDays_21 : decode cX4_readsDays 21 = .ok (.iload_n 1, 1) := by decide +kernel
theorem dX4_readsDays_22 : decode cX4_readsDays 22 = .ok (.invokevirtual 163, 3) := by decide +kernel
theorem dX4_readsDays_25 : decode cX4_readsDays 25 = .ok (.ifCond .eq 8, 3) := by decide +kernel
theorem dX4_readsDays_28 : decode cX4_readsDays 28 = .ok (.aload_n 0, 1) := by decide +kernel
theorem dX4_readsDays_29 : decode cX4_readsDays 29 = .ok (.iconst 2, 1) := by decide +kernel
theorem dX4_readsDays_30 : decode cX4_readsDays 30 = .ok (.invokevirtual 139, 3) := by decide +kernel
theorem dX4_readsDays_33 : decode cX4_readsDays 33 = .ok (.aload_n 0, 1) := by decide +kernel
theorem dX4_readsDays_34 : decode cX4_readsDays 34 = .ok (.getfield 130, 3) := by decide +kernel
theorem dX4_readsDays_37 : decode cX4_readsDays 37 = .ok (.ifCond .ne 13, 3) := by decide +kernel
theorem dX4_readsDays_40 : decode cX4_readsDays 40 = .ok (.aload_n 0, 1) := by decide +kernel
theorem dX4_readsDays_41 : decode cX4_readsDays 41 = .ok (.iload_n 1, 1) := by decide +kernel
theorem dX4_readsDays_42 : decode cX4_readsDays 42 = .ok (.invokevirtual 61, 3) := by decide +kernel
theorem dX4_readsDays_45 : decode cX4_readsDays 45 = .ok (.istore_n 2, 1) := by decide +kernel
theorem dX4_readsDays_46 : decode cX4_readsDays 46 = .ok (.aload_n 0, 1) := by decide +kernel
theorem dX4_readsDays_47 : decode cX4_readsDays 47 = .ok (.invokevirtual 136, 3) := by decide +kernel
theorem dX4_readsDays_50 : decode cX4_readsDays 50 = .ok (.return_, 1) := by decide +kernel
theorem dX4_readsLine_0 : decode cX4_readsLine 0 = .ok (.aload_n 0, 1) := by decide +kernel
theorem dX4_readsLine_1 : decode cX4_readsLine 1 = .ok (.iconst 1, 1) := by decide +kernel
theorem dX4_readsLine_2 : decode cX4_readsLine 2 = .ok (.invokevirtual 166, 3) := by decide +kernel
theorem dX4_readsLine_5 : decode cX4_readsLine 5 = .ok (.ifCond .eq 10, 3) := by decide +kernel
theorem dX4_readsLine_8 : decode cX4_readsLine 8 = .ok (.aload_n 0, 1) := by decide +kernel
theorem dX4_readsLine_9 : decode cX4_readsLine 9 = .ok (.invokevirtual 169, 3) := by decide +kernel
theorem dX4_readsLine_12 : decode cX4_readsLine 12 = .ok (.goto 84, 3) := by decide +kernel
theorem dX4_readsLine_15 : decode cX4_readsLine 15 = .ok (.aload_n 0, 1) := by decide +kernel
theorem dX4_readsLine_16 : decode cX4_readsLine 16 = .ok (.iconst 2, 1) := by decide +kernel
theorem dX4_readsLine_17 : decode cX4_readsLine 17 = .ok (.invokevirtual 166, 3) := by decide +kernel
theorem dX4_readsLine_20 : decode cX4_readsLine 20 = .ok (.ifCond .eq 10, 3) := by decide +kernel
theorem dX4_readsLine_23 : decode cX4_readsLine 23 = .ok (.aload_n 0, 1) := by decide +kernel
theorem dX4_readsLine_24 : decode cX4_readsLine 24 = .ok (.invokevirtual 172, 3) := by decide +kernel
theorem dX4_readsLine_27 : decode cX4_readsLine 27 = .ok (.goto 69, 3) := by decide +kernel
theorem dX4_readsLine_30 : decode cX4_readsLine 30 = .ok (.aload_n 0, 1) := by decide +kernel
theorem dX4_readsLine_31 : decode cX4_readsLine 31 = .ok (.iconst 3, 1) := by decide +kernel
theorem dX4_readsLine_32 : decode cX4_readsLine 32 = .ok (.invokevirtual 166, 3) := by decide +kernel
theorem dX4_readsLine_35 : decode cX4_readsLine 35 = .ok (.ifCond .eq 10, 3) := by decide +kernel
theorem dX4_readsLine_38 : decode cX4_readsLine 38 = .ok (.aload_n 0, 1) := by decide +kernel
theorem dX4_readsLine_39 : decode cX4_readsLine 39 = .ok (.invokevirtual 175, 3) := by decide +kernel
theorem dX4_readsLine_42 : decode cX4_readsLine 42 = .ok (.goto 54, 3) := by decide +kernel
theorem dX4_readsLine_45 : decode cX4_readsLine 45 = .ok (.aload_n 0, 1) := by decide +kernel
theorem dX4_readsLine_46 : decode cX4_readsLine 46 = .ok (.iconst 4, 1) := by decide +kernel
theorem dX4_readsLine_47 : decode cX4_readsLine 47 = .ok (.invokevirtual 166, 3) := by decide +kernel
theorem dX4_readsLine_50 : decode cX4_readsLine 50 = .ok (.ifCond .eq 10, 3) := by decide +kernel
theorem dX4_readsLine_53 : decode cX4_readsLine 53 = .ok (.aload_n 0, 1) := by decide +kernel
theorem dX4_readsLine_54 : decode cX4_readsLine 54 = .ok (.invokevirtual 178, 3) := by decide +kernel
theorem dX4_readsLine_57 : decode cX4_readsLine 57 = .ok (.goto 39, 3) := by decide +kernel
theorem dX4_readsLine_60 : decode cX4_readsLine 60 = .ok (.aload_n 0, 1) := by decide +kernel
theorem dX4_readsLine_61 : decode cX4_readsLine 61 = .ok (.iconst 5, 1) := by decide +kernel
theorem dX4_readsLine_62 : decode cX4_readsLine 62 = .ok (.invokevirtual 166, 3) := by decide +kernel
theorem dX4_readsLine_65 : decode cX4_readsLine 65 = .ok (.ifCond .eq 10, 3) := by decide +kernel
theorem dX4_readsLine_68 : decode cX4_readsLine 68 = .ok (.aload_n 0, 1) := by decide +kernel
theorem dX4_readsLine_69 : decode cX4_readsLine 69 = .ok (.invokevirtual 181, 3) := by decide +kernel
theorem dX4_readsLine_72 : decode cX4_readsLine 72 = .ok (.goto 24, 3) := by decide +kernel
theorem dX4_readsLine_75 : decode cX4_readsLine 75 = .ok (.aload_n 0, 1) := by decide +kernel
theorem dX4_readsLine_76 : decode cX4_readsLine 76 = .ok (.bipush 6, 2) := by decide +kernel
theorem dX4_readsLine_78 : decode cX4_readsLine 78 = .ok (.invokevirtual 166, 3) := by decide +kernel
theorem dX4_readsLine_81 : decode cX4_readsLine 81 = .ok (.ifCond .eq 10, 3) := by decide +kernel
theorem dX4_readsLine_84 : decode cX4_readsLine 84 = .ok (.aload_n 0, 1) := by decide +kernel
theorem dX4_readsLine_85 : decode cX4_readsLine 85 = .ok (.invokevirtual 184, 3) := by decide +kernel
theorem dX4_readsLine_88 : decode cX4_readsLine 88 = .ok (.goto 8, 3) := by decide +kernel
theorem dX4_readsLine_91 : decode cX4_readsLine 91 = .ok (.aload_n 0, 1) := by decide +kernel
theorem dX4_readsLine_92 : decode cX4_readsLine 92 = .ok (.iconst 1, 1) := by decide +kernel
theorem dX4_readsLine_93 : decode cX4_readsLine 93 = .ok (.invokevirtual 139, 3) := by decide +kernel
theorem dX4_readsLine_96 : decode cX4_readsLine 96 = .ok (.return_, 1) := by decide +kernel
theorem dX4_readsText_0 : decode cX4_readsText 0 = .ok (.iconst 0, 1) := by decide +kernel
theorem dX4_readsText_1 : decode cX4_readsText 1 = .ok (.istore_n 2, 1) := by decide +kernel
theorem dX4_readsText_2 : decode cX4_readsText 2 = .ok (.iload_n 2, 1) := by decide +kernel
theorem dX4_readsText_3 : decode cX4_readsText 3 = .ok (.sipush 151, 3) := by decide +kernel
theorem dX4_readsText_6 : decode cX4_readsText 6 = .ok (.if_icmp .ge 16, 3) := by decide +kernel
theorem dX4_readsText_9 : decode cX4_readsText 9 = .ok (.aload_n 0, 1) := by decide +kernel
theorem dX4_readsText_10 : decode cX4_readsText 10 = .ok (.getfield 13, 3) := by decide +kernel
theorem dX4_readsText_13 : decode cX4_readsText 13 = .ok (.iload_n 2, 1) := by decide +kernel
theorem dX4_readsText_14 : decode cX4_readsText 14 = .ok (.iconst 0, 1) := by decide +kernel
theorem dX4_readsText_15 : decode cX4_readsText 15 = .ok (.iastore, 1) := by decide +kernel
theorem dX4_readsText_16 : decode cX4_readsText 16 = .ok (.iinc 2 1, 3) := by decide +kernel
theorem dX4_readsText_19 : decode cX4_readsText 19 = .ok (.goto (-17), 3) := by decide +kernel
theorem dX4_readsText_22 : decode cX4_readsText 22 = .ok (.aload_n 0, 1) := by decide +kernel
theorem dX4_readsText_23 : decode cX4_readsText 23 = .ok (.iload_n 1, 1) := by decide +kernel
theorem dX4_readsText_24 : decode cX4_readsText 24 = .ok (.putfield 118, 3) := by decide +kernel
theorem dX4_readsText_27 : decode cX4_readsText 27 = .ok (.aload_n 0, 1) := by decide +kernel
theorem dX4_readsText_28 : decode cX4_readsText 28 = .ok (.iconst 0, 1) := by decide +kernel
theorem dX4_readsText_29 : decode cX4_readsText 29 = .ok (.putfield 130, 3) := by decide +kernel
theorem dX4_readsText_32 : decode cX4_readsText 32 = .ok (.aload_n 0, 1) := by decide +kernel
theorem dX4_readsText_33 : decode cX4_readsText 33 = .ok (.iconst 0, 1) := by decide +kernel
theorem dX4_readsText_34 : decode cX4_readsText 34 = .ok (.putfield 109, 3) := by decide +kernel
theorem dX4_readsText_37 : decode cX4_readsText 37 = .ok (.aload_n 0, 1) := by decide +kernel
theorem dX4_readsText_38 : decode cX4_readsText 38 = .ok (.iconst 0, 1) := by decide +kernel
theorem dX4_readsText_39 : decode cX4_readsText 39 = .ok (.putfield 112, 3) := by decide +kernel
theorem dX4_readsText_42 : decode cX4_readsText 42 = .ok (.aload_n 0, 1) := by decide +kernel
theorem dX4_readsText_43 : decode cX4_readsText 43 = .ok (.invokevirtual 136, 3) := by decide +kernel
theorem dX4_readsText_46 : decode cX4_readsText 46 = .ok (.aload_n 0, 1) := by decide +kernel
theorem dX4_readsText_47 : decode cX4_readsText 47 = .ok (.iconst 0, 1) := by decide +kernel
theorem dX4_readsText_48 : decode cX4_readsText 48 = .ok (.invokevirtual 166, 3) := by decide +kernel
theorem dX4_readsText_51 : decode cX4_readsText 51 = .ok (.ifCond .eq 10, 3) := by decide +kernel
theorem dX4_readsText_54 : decode cX4_readsText 54 = .ok (.aload_n 0, 1) := by decide +kernel
theorem dX4_readsText_55 : decode cX4_readsText 55 = .ok (.invokevirtual 136, 3) := by decide +kernel
theorem dX4_readsText_58 : decode cX4_readsText 58 = .ok (.goto 8, 3) := by decide +kernel
theorem dX4_readsText_61 : decode cX4_readsText 61 = .ok (.aload_n 0, 1) := by decide +kernel
theorem dX4_readsText_62 : decode cX4_readsText 62 = .ok (.iconst 1, 1) := by decide +kernel
theorem dX4_readsText_63 : decode cX4_readsText 63 = .ok (.invokevirtual 139, 3) := by decide +kernel
theorem dX4_readsText_66 : decode cX4_readsText 66 = .ok (.aload_n 0, 1) := by decide +kernel
theorem dX4_readsText_67 : decode cX4_readsText 67 = .ok (.getfield 13, 3) := by decide +kernel
theorem dX4_readsText_70 : decode cX4_readsText 70 = .ok (.iconst 2, 1) := by decide +kernel
theorem dX4_readsText_71 : decode cX4_readsText 71 = .ok (.aload_n 0, 1) := by decide +kernel
theorem dX4_readsText_72 : decode cX4_readsText 72 = .ok (.iconst 0, 1) := by decide +kernel
theorem dX4_readsText_73 : decode cX4_readsText 73 = .ok (.sipush 9972, 3) := by decide +kernel
theorem dX4_readsText_76 : decode cX4_readsText 76 = .ok (.invokevirtual 154, 3) := by decide +kernel
theorem dX4_readsText_79 : decode cX4_readsText 79 = .ok (.iastore, 1) := by decide +kernel
theorem dX4_readsText_80 : decode cX4_readsText 80 = .ok (.aload_n 0, 1) := by decide +kernel
theorem dX4_readsText_81 : decode cX4_readsText 81 = .ok (.getfield 13, 3) := by decide +kernel
theorem dX4_readsText_84 : decode cX4_readsText 84 = .ok (.iconst 3, 1) := by decide +kernel
theorem dX4_readsText_85 : decode cX4_readsText 85 = .ok (.aload_n 0, 1) := by decide +kernel
theorem dX4_readsText_86 : decode cX4_readsText 86 = .ok (.iconst 0, 1) := by decide +kernel
theorem dX4_readsText_87 : decode cX4_readsText 87 = .ok (.sipush 9999, 3) := by decide +kernel
theorem dX4_readsText_90 : decode cX4_readsText 90 = .ok (.invokevirtual 154, 3) := by decide +kernel
theorem dX4_readsText_93 : decode cX4_readsText 93 = .ok (.iastore, 1) := by decide +kernel
theorem dX4_readsText_94 : decode cX4_readsText 94 = .ok (.aload_n 0, 1) := by decide +kernel
theorem dX4_readsText_95 : decode cX4_readsText 95 = .ok (.getfield 13, 3) := by decide +kernel
theorem dX4_readsText_98 : decode cX4_readsText 98 = .ok (.bipush 6, 2) := by decide +kernel
theorem dX4_readsText_100 : decode cX4_readsText 100 = .ok (.aload_n 0, 1) := by decide +kernel
theorem dX4_readsText_101 : decode cX4_readsText 101 = .ok (.getfield 13, 3) := by decide +kernel
theorem dX4_readsText_104 : decode cX4_readsText 104 = .ok (.iconst 3, 1) := by decide +kernel
theorem dX4_readsText_105 : decode cX4_readsText 105 = .ok (.iaload, 1) := by decide +kernel
theorem dX4_readsText_106 : decode cX4_readsText 106 = .ok (.iastore, 1) := by decide +kernel
theorem dX4_readsText_107 : decode cX4_readsText 107 = .ok (.aload_n 0, 1) := by decide +kernel
theorem dX4_readsText_108 : decode cX4_readsText 108 = .ok (.getfield 130, 3) := by decide +kernel
theorem dX4_readsText_111 : decode cX4_readsText 111 = .ok (.ifCond .ne 37, 3) := by decide +kernel
theorem dX4_readsText_114 : decode cX4_readsText 114 = .ok (.aload_n 0, 1) := by decide +kernel
theorem dX4_readsText_115 : decode cX4_readsText 115 = .ok (.getfield 109, 3) := by decide +kernel
theorem dX4_readsText_118 : decode cX4_readsText 118 = .ok (.ifCond .eq 30, 3) := by decide +kernel
theorem dX4_readsText_121 : decode cX4_readsText 121 = .ok (.aload_n 0, 1) := by decide +kernel
theorem dX4_readsText_122 : decode cX4_readsText 122 = .ok (.getfield 109, 3) := by decide +kernel
theorem dX4_readsText_125 : decode cX4_readsText 125 = .ok (.iconst 3, 1) := by decide +kernel
theorem dX4_readsText_126 : decode cX4_readsText 126 = .ok (.if_icmp .ne 14, 3) := by decide +kernel
theorem dX4_readsText_129 : decode cX4_readsText 129 = .ok (.aload_n 0, 1) := by decide +kernel
theorem dX4_readsText_130 : decode cX4_readsText 130 = .ok (.invokevirtual 136, 3) := by decide +kernel
theorem dX4_readsText_133 : decode cX4_readsText 133 = .ok (.aload_n 0, 1) := by decide +kernel
theorem dX4_readsText_134 : decode cX4_readsText 134 = .ok (.invokevirtual 187, 3) := by decide +kernel
theorem dX4_readsText_137 : decode cX4_readsText 137 = .ok (.goto (-30), 3) := by decide +kernel
theorem dX4_readsText_140 : decode cX4_readsText 140 = .ok (.aload_n 0, 1) := by decide +kernel
theorem dX4_readsText_141 : decode cX4_readsText 141 = .ok (.iconst 1, 1) := by decide +kernel
theorem dX4_readsText_142 : decode cX4_readsText 142 = .ok (.invokevirtual 139, 3) := by decide +kernel
theorem dX4_readsText_145 : decode cX4_readsText 145 = .ok (.goto (-38), 3) := by decide +kernel
theorem dX4_readsText_148 : decode cX4_readsText 148 = .ok (.return_, 1) := by decide +kernel
theorem dX4_feeds_0 : decode cX4_feeds 0 = .ok (.aload_n 0, 1) := by decide +kernel
theorem dX4_feeds_1 : decode cX4_feeds 1 = .ok (.getfield 28, 3) := by decide +kernel
theorem dX4_feeds_4 : decode cX4_feeds 4 = .ok (.aload_n 0, 1) := by decide +kernel
theorem dX4_feeds_5 : decode cX4_feeds 5 = .ok (.getfield 190, 3) := by decide +kernel
theorem dX4_feeds_8 : decode cX4_feeds 8 = .ok (.iload_n 1, 1) := by decide +kernel
theorem dX4_feeds_9 : decode cX4_feeds 9 = .ok (.bipush 24, 2) := by decide +kernel
theorem dX4_feeds_11 : decode cX4_feeds 11 = .ok (.ishr, 1) := by decide +kernel
theorem dX4_feeds_12 : decode cX4_feeds 12 = .ok (.i2b, 1) := by decide +kernel
theorem dX4_feeds_13 : decode cX4_feeds 13 = .ok (.bastore, 1) := by decide +kernel
theorem dX4_feeds_14 : decode cX4_feeds 14 = .ok (.aload_n 0, 1) := by decide +kernel
theorem dX4_feeds_15 : decode cX4_feeds 15 = .ok (.getfield 28, 3) := by decide +kernel
theorem dX4_feeds_18 : decode cX4_feeds 18 = .ok (.aload_n 0, 1) := by decide +kernel
theorem dX4_feeds_19 : decode cX4_feeds 19 = .ok (.getfield 190, 3) := by decide +kernel
theorem dX4_feeds_22 : decode cX4_feeds 22 = .ok (.iconst 1, 1) := by decide +kernel
theorem dX4_feeds_23 : decode cX4_feeds 23 = .ok (.iadd, 1) := by decide +kernel
theorem dX4_feeds_24 : decode cX4_feeds 24 = .ok (.iload_n 1, 1) := by decide +kernel
theorem dX4_feeds_25 : decode cX4_feeds 25 = .ok (.bipush 16, 2) := by decide +kernel
theorem dX4_feeds_27 : decode cX4_feeds 27 = .ok (.ishr, 1) := by decide +kernel
theorem dX4_feeds_28 : decode cX4_feeds 28 = .ok (.i2b, 1) := by decide +kernel
theorem dX4_feeds_29 : decode cX4_feeds 29 = .ok (.bastore, 1) := by decide +kernel
theorem dX4_feeds_30 : decode cX4_feeds 30 = .ok (.aload_n 0, 1) := by decide +kernel
theorem dX4_feeds_31 : decode cX4_feeds 31 = .ok (.getfield 28, 3) := by decide +kernel
theorem dX4_feeds_34 : decode cX4_feeds 34 = .ok (.aload_n 0, 1) := by decide +kernel
theorem dX4_feeds_35 : decode cX4_feeds 35 = .ok (.getfield 190, 3) := by decide +kernel
theorem dX4_feeds_38 : decode cX4_feeds 38 = .ok (.iconst 2, 1) := by decide +kernel
theorem dX4_feeds_39 : decode cX4_feeds 39 = .ok (.iadd, 1) := by decide +kernel
theorem dX4_feeds_40 : decode cX4_feeds 40 = .ok (.iload_n 1, 1) := by decide +kernel
theorem dX4_feeds_41 : decode cX4_feeds 41 = .ok (.bipush 8, 2) := by decide +kernel
theorem dX4_feeds_43 : decode cX4_feeds 43 = .ok (.ishr, 1) := by decide +kernel
theorem dX4_feeds_44 : decode cX4_feeds 44 = .ok (.i2b, 1) := by decide +kernel
theorem dX4_feeds_45 : decode cX4_feeds 45 = .ok (.bastore, 1) := by decide +kernel
theorem dX4_feeds_46 : decode cX4_feeds 46 = .ok (.aload_n 0, 1) := by decide +kernel
theorem dX4_feeds_47 : decode cX4_feeds 47 = .ok (.getfield 28, 3) := by decide +kernel
theorem dX4_feeds_50 : decode cX4_feeds 50 = .ok (.aload_n 0, 1) := by decide +kernel
theorem dX4_feeds_51 : decode cX4_feeds 51 = .ok (.getfield 190, 3) := by decide +kernel
theorem dX4_feeds_54 : decode cX4_feeds 54 = .ok (.iconst 3, 1) := by decide +kernel
theorem dX4_feeds_55 : decode cX4_feeds 55 = .ok (.iadd, 1) := by decide +kernel
theorem dX4_feeds_56 : decode cX4_feeds 56 = .ok (.iload_n 1, 1) := by decide +kernel
theorem dX4_feeds_57 : decode cX4_feeds 57 = .ok (.i2b, 1) := by decide +kernel
theorem dX4_feeds_58 : decode cX4_feeds 58 = .ok (.bastore, 1) := by decide +kernel
theorem dX4_feeds_59 : decode cX4_feeds 59 = .ok (.aload_n 0, 1) := by decide +kernel
theorem dX4_feeds_60 : decode cX4_feeds 60 = .ok (.dup, 1) := by decide +kernel
theorem dX4_feeds_61 : decode cX4_feeds 61 = .ok (.getfield 190, 3) := by decide +kernel
theorem dX4_feeds_64 : decode cX4_feeds 64 = .ok (.iconst 4, 1) := by decide +kernel
theorem dX4_feeds_65 : decode cX4_feeds 65 = .ok (.iadd, 1) := by decide +kernel
theorem dX4_feeds_66 : decode cX4_feeds 66 = .ok (.putfield 190, 3) := by decide +kernel
theorem dX4_feeds_69 : decode cX4_feeds 69 = .ok (.return_, 1) := by decide +kernel
theorem dX4_append_0 : decode cX4_append 0 = .ok (.aload_n 0, 1) := by decide +kernel
theorem dX4_append_1 : decode cX4_append 1 = .ok (.getfield 190, 3) := by decide +kernel
theorem dX4_append_4 : decode cX4_append 4 = .ok (.sipush 580, 3) := by decide +kernel
theorem dX4_append_7 : decode cX4_append 7 = .ok (.if_icmp .le 9, 3) := by decide +kernel
theorem dX4_append_10 : decode cX4_append 10 = .ok (.aload_n 0, 1) := by decide +kernel
theorem dX4_append_11 : decode cX4_append 11 = .ok (.iconst 1, 1) := by decide +kernel
theorem dX4_append_12 : decode cX4_append 12 = .ok (.invokevirtual 193, 3) := by decide +kernel
theorem dX4_append_15 : decode cX4_append 15 = .ok (.ireturn, 1) := by decide +kernel
theorem dX4_append_16 : decode cX4_append 16 = .ok (.aload_n 0, 1) := by decide +kernel
theorem dX4_append_17 : decode cX4_append 17 = .ok (.iload_n 1, 1) := by decide +kernel
theorem dX4_append_18 : decode cX4_append 18 = .ok (.invokevirtual 196, 3) := by decide +kernel
theorem dX4_append_21 : decode cX4_append 21 = .ok (.aload_n 0, 1) := by decide +kernel
theorem dX4_append_22 : decode cX4_append 22 = .ok (.iload_n 2, 1) := by decide +kernel
theorem dX4_append_23 : decode cX4_append 23 = .ok (.invokevirtual 196, 3) := by decide +kernel
theorem dX4_append_26 : decode cX4_append 26 = .ok (.aload_n 0, 1) := by decide +kernel
theorem dX4_append_27 : decode cX4_append 27 = .ok (.iload_n 3, 1) := by decide +kernel
theorem dX4_append_28 : decode cX4_append 28 = .ok (.invokevirtual 196, 3) := by decide +kernel
theorem dX4_append_31 : decode cX4_append 31 = .ok (.aload_n 0, 1) := by decide +kernel
theorem dX4_append_32 : decode cX4_append 32 = .ok (.iload 4, 2) := by decide +kernel
theorem dX4_append_34 : decode cX4_append 34 = .ok (.invokevirtual 196, 3) := by decide +kernel
theorem dX4_append_37 : decode cX4_append 37 = .ok (.aload_n 0, 1) := by decide +kernel
theorem dX4_append_38 : decode cX4_append 38 = .ok (.iload 5, 2) := by decide +kernel
theorem dX4_append_40 : decode cX4_append 40 = .ok (.invokevirtual 196, 3) := by decide +kernel
theorem dX4_append_43 : decode cX4_append 43 = .ok (.aload_n 0, 1) := by decide +kernel
theorem dX4_append_44 : decode cX4_append 44 = .ok (.aload_n 0, 1) := by decide +kernel
theorem dX4_append_45 : decode cX4_append 45 = .ok (.getfield 190, 3) := by decide +kernel
theorem dX4_append_48 : decode cX4_append 48 = .ok (.invokevirtual 199, 3) := by decide +kernel
theorem dX4_append_51 : decode cX4_append 51 = .ok (.ireturn, 1) := by decide +kernel
theorem dX4_load_0 : decode cX4_load 0 = .ok (.iload_n 1, 1) := by decide +kernel
theorem dX4_load_1 : decode cX4_load 1 = .ok (.iconst 0, 1) := by decide +kernel
theorem dX4_load_2 : decode cX4_load 2 = .ok (.aload_n 0, 1) := by decide +kernel
theorem dX4_load_3 : decode cX4_load 3 = .ok (.getfield 190, 3) := by decide +kernel
theorem dX4_load_6 : decode cX4_load 6 = .ok (.invokestatic 67, 3) := by decide +kernel
theorem dX4_load_9 : decode cX4_load 9 = .ok (.ifCond .ne 9, 3) := by decide +kernel
theorem dX4_load_12 : decode cX4_load 12 = .ok (.aload_n 0, 1) := by decide +kernel
theorem dX4_load_13 : decode cX4_load 13 = .ok (.iconst 1, 1) := by decide +kernel
theorem dX4_load_14 : decode cX4_load 14 = .ok (.invokevirtual 193, 3) := by decide +kernel
theorem dX4_load_17 : decode cX4_load 17 = .ok (.ireturn, 1) := by decide +kernel
theorem dX4_load_18 : decode cX4_load 18 = .ok (.aload_n 0, 1) := by decide +kernel
theorem dX4_load_19 : decode cX4_load 19 = .ok (.invokevirtual 202, 3) := by decide +kernel
theorem dX4_load_22 : decode cX4_load 22 = .ok (.aload_n 0, 1) := by decide +kernel
theorem dX4_load_23 : decode cX4_load 23 = .ok (.iload_n 1, 1) := by decide +kernel
theorem dX4_load_24 : decode cX4_load 24 = .ok (.invokevirtual 205, 3) := by decide +kernel
theorem dX4_load_27 : decode cX4_load 27 = .ok (.aload_n 0, 1) := by decide +kernel
theorem dX4_load_28 : decode cX4_load 28 = .ok (.iconst 0, 1) := by decide +kernel
theorem dX4_load_29 : decode cX4_load 29 = .ok (.putfield 190, 3) := by decide +kernel
theorem dX4_load_32 : decode cX4_load 32 = .ok (.aload_n 0, 1) := by decide +kernel
theorem dX4_load_33 : decode cX4_load 33 = .ok (.aload_n 0, 1) := by decide +kernel
theorem dX4_load_34 : decode cX4_load 34 = .ok (.getfield 130, 3) := by decide +kernel
theorem dX4_load_37 : decode cX4_load 37 = .ok (.putfield 208, 3) := by decide +kernel
theorem dX4_load_40 : decode cX4_load 40 = .ok (.aload_n 0, 1) := by decide +kernel
theorem dX4_load_41 : decode cX4_load 41 = .ok (.aload_n 0, 1) := by decide +kernel
theorem dX4_load_42 : decode cX4_load 42 = .ok (.getfield 130, 3) := by decide +kernel
theorem dX4_load_45 : decode cX4_load 45 = .ok (.ifCond .ne 7, 3) := by decide +kernel
theorem dX4_load_48 : decode cX4_load 48 = .ok (.iconst (-1), 1) := by decide +kernel
theorem dX4_load_49 : decode cX4_load 49 = .ok (.goto 7, 3) := by decide +kernel
theorem dX4_load_52 : decode cX4_load 52 = .ok (.aload_n 0, 1) := by decide +kernel
theorem dX4_load_53 : decode cX4_load 53 = .ok (.getfield 133, 3) := by decide +kernel
theorem dX4_load_56 : decode cX4_load 56 = .ok (.putfield 35, 3) := by decide +kernel
theorem dX4_load_59 : decode cX4_load 59 = .ok (.aload_n 0, 1) := by decide +kernel
theorem dX4_load_60 : decode cX4_load 60 = .ok (.getfield 130, 3) := by decide +kernel
theorem dX4_load_63 : decode cX4_load 63 = .ok (.ifCond .eq 13, 3) := by decide +kernel
theorem dX4_load_66 : decode cX4_load 66 = .ok (.aload_n 0, 1) := by decide +kernel
theorem dX4_load_67 : decode cX4_load 67 = .ok (.invokevirtual 211, 3) := by decide +kernel
theorem dX4_load_70 : decode cX4_load 70 = .ok (.aload_n 0, 1) := by decide +kernel
theorem dX4_load_71 : decode cX4_load 71 = .ok (.iconst 2, 1) := by decide +kernel
theorem dX4_load_72 : decode cX4_load 72 = .ok (.invokevirtual 193, 3) := by decide +kernel
theorem dX4_load_75 : decode cX4_load 75 = .ok (.ireturn, 1) := by decide +kernel
theorem dX4_load_76 : decode cX4_load 76 = .ok (.aload_n 0, 1) := by decide +kernel
theorem dX4_load_77 : decode cX4_load 77 = .ok (.iconst 0, 1) := by decide +kernel
theorem dX4_load_78 : decode cX4_load 78 = .ok (.putfield 106, 3) := by decide +kernel
theorem dX4_load_81 : decode cX4_load 81 = .ok (.aload_n 0, 1) := by decide +kernel
theorem dX4_load_82 : decode cX4_load 82 = .ok (.iconst 0, 1) := by decide +kernel
theorem dX4_load_83 : decode cX4_load 83 = .ok (.putfield 214, 3) := by decide +kernel
theorem dX4_load_86 : decode cX4_load 86 = .ok (.aload_n 0, 1) := by decide +kernel
theorem dX4_load_87 : decode cX4_load 87 = .ok (.aload_n 0, 1) := by decide +kernel
theorem dX4_load_88 : decode cX4_load 88 = .ok (.getfield 13, 3) := by decide +kernel
theorem dX4_load_91 : decode cX4_load 91 = .ok (.iconst 5, 1) := by decide +kernel
theorem dX4_load_92 : decode cX4_load 92 = .ok (.iaload, 1) := by decide +kernel
theorem dX4_load_93 : decode cX4_load 93 = .ok (.invokevirtual 199, 3) := by decide +kernel
theorem dX4_load_96 : decode cX4_load 96 = .ok (.ireturn, 1) := by decide +kernel
theorem dX4_errorKind_0 : decode cX4_errorKind 0 = .ok (.aload_n 0, 1) := by decide +kernel
theorem dX4_errorKind_1 : decode cX4_errorKind 1 = .ok (.aload_n 0, 1) := by decide +kernel
theorem dX4_errorKind_2 : decode cX4_errorKind 2 = .ok (.getfield 208, 3) := by decide +kernel
theorem dX4_errorKind_5 : decode cX4_errorKind 5 = .ok (.invokevirtual 199, 3) := by decide +kernel
theorem dX4_errorKind_8 : decode cX4_errorKind 8 = .ok (.ireturn, 1) := by decide +kernel
theorem dX4_errorOffset_0 : decode cX4_errorOffset 0 = .ok (.aload_n 0, 1) := by decide +kernel
theorem dX4_errorOffset_1 : decode cX4_errorOffset 1 = .ok (.aload_n 0, 1) := by decide +kernel
theorem dX4_errorOffset_2 : decode cX4_errorOffset 2 = .ok (.getfield 35, 3) := by decide +kernel
theorem dX4_errorOffset_5 : decode cX4_errorOffset 5 = .ok (.invokevirtual 199, 3) := by decide +kernel
theorem dX4_errorOffset_8 : decode cX4_errorOffset 8 = .ok (.ireturn, 1) := by decide +kernel
theorem dX4_year_0 : decode cX4_year 0 = .ok (.aload_n 0, 1) := by decide +kernel
theorem dX4_year_1 : decode cX4_year 1 = .ok (.aload_n 0, 1) := by decide +kernel
theorem dX4_year_2 : decode cX4_year 2 = .ok (.getfield 13, 3) := by decide +kernel
theorem dX4_year_5 : decode cX4_year 5 = .ok (.iconst 0, 1) := by decide +kernel
theorem dX4_year_6 : decode cX4_year 6 = .ok (.iaload, 1) := by decide +kernel
theorem dX4_year_7 : decode cX4_year 7 = .ok (.invokevirtual 199, 3) := by decide +kernel
theorem dX4_year_10 : decode cX4_year 10 = .ok (.ireturn, 1) := by decide +kernel
theorem dX4_month_0 : decode cX4_month 0 = .ok (.aload_n 0, 1) := by decide +kernel
theorem dX4_month_1 : decode cX4_month 1 = .ok (.aload_n 0, 1) := by decide +kernel
theorem dX4_month_2 : decode cX4_month 2 = .ok (.getfield 13, 3) := by decide +kernel
theorem dX4_month_5 : decode cX4_month 5 = .ok (.iconst 1, 1) := by decide +kernel
theorem dX4_month_6 : decode cX4_month 6 = .ok (.iaload, 1) := by decide +kernel
theorem dX4_month_7 : decode cX4_month 7 = .ok (.bipush 30, 2) := by decide +kernel
theorem dX4_month_9 : decode cX4_month 9 = .ok (.idiv, 1) := by decide +kernel
theorem dX4_month_10 : decode cX4_month 10 = .ok (.iconst 1, 1) := by decide +kernel
theorem dX4_month_11 : decode cX4_month 11 = .ok (.iadd, 1) := by decide +kernel
theorem dX4_month_12 : decode cX4_month 12 = .ok (.invokevirtual 199, 3) := by decide +kernel
theorem dX4_month_15 : decode cX4_month 15 = .ok (.ireturn, 1) := by decide +kernel
theorem dX4_dayOfMonth_0 : decode cX4_dayOfMonth 0 = .ok (.aload_n 0, 1) := by decide +kernel
theorem dX4_dayOfMonth_1 : decode cX4_dayOfMonth 1 = .ok (.aload_n 0, 1) := by decide +kernel
theorem dX4_dayOfMonth_2 : decode cX4_dayOfMonth 2 = .ok (.getfield 13, 3) := by decide +kernel
theorem dX4_dayOfMonth_5 : decode cX4_dayOfMonth 5 = .ok (.iconst 1, 1) := by decide +kernel
theorem dX4_dayOfMonth_6 : decode cX4_dayOfMonth 6 = .ok (.iaload, 1) := by decide +kernel
theorem dX4_dayOfMonth_7 : decode cX4_dayOfMonth 7 = .ok (.bipush 30, 2) := by decide +kernel
theorem dX4_dayOfMonth_9 : decode cX4_dayOfMonth 9 = .ok (.irem, 1) := by decide +kernel
theorem dX4_dayOfMonth_10 : decode cX4_dayOfMonth 10 = .ok (.iconst 1, 1) := by decide +kernel
theorem dX4_dayOfMonth_11 : decode cX4_dayOfMonth 11 = .ok (.iadd, 1) := by decide +kernel
theorem dX4_dayOfMonth_12 : decode cX4_dayOfMonth 12 = .ok (.invokevirtual 199, 3) := by decide +kernel
theorem dX4_dayOfMonth_15 : decode cX4_dayOfMonth 15 = .ok (.ireturn, 1) := by decide +kernel
theorem dX4_seed_0 : decode cX4_seed 0 = .ok (.aload_n 0, 1) := by decide +kernel
theorem dX4_seed_1 : decode cX4_seed 1 = .ok (.aload_n 0, 1) := by decide +kernel
theorem dX4_seed_2 : decode cX4_seed 2 = .ok (.getfield 13, 3) := by decide +kernel
theorem dX4_seed_5 : decode cX4_seed 5 = .ok (.iconst 2, 1) := by decide +kernel
theorem dX4_seed_6 : decode cX4_seed 6 = .ok (.iaload, 1) := by decide +kernel
theorem dX4_seed_7 : decode cX4_seed 7 = .ok (.invokevirtual 199, 3) := by decide +kernel
theorem dX4_seed_10 : decode cX4_seed 10 = .ok (.ireturn, 1) := by decide +kernel
theorem dX4_nextDraw_0 : decode cX4_nextDraw 0 = .ok (.aload_n 0, 1) := by decide +kernel
theorem dX4_nextDraw_1 : decode cX4_nextDraw 1 = .ok (.aload_n 0, 1) := by decide +kernel
theorem dX4_nextDraw_2 : decode cX4_nextDraw 2 = .ok (.getfield 13, 3) := by decide +kernel
theorem dX4_nextDraw_5 : decode cX4_nextDraw 5 = .ok (.iconst 2, 1) := by decide +kernel
theorem dX4_nextDraw_6 : decode cX4_nextDraw 6 = .ok (.iaload, 1) := by decide +kernel
theorem dX4_nextDraw_7 : decode cX4_nextDraw 7 = .ok (.invokestatic 80, 3) := by decide +kernel
theorem dX4_nextDraw_10 : decode cX4_nextDraw 10 = .ok (.sipush 360, 3) := by decide +kernel
theorem dX4_nextDraw_13 : decode cX4_nextDraw 13 = .ok (.irem, 1) := by decide +kernel
theorem dX4_nextDraw_14 : decode cX4_nextDraw 14 = .ok (.invokevirtual 199, 3) := by decide +kernel
theorem dX4_nextDraw_17 : decode cX4_nextDraw 17 = .ok (.ireturn, 1) := by decide +kernel
theorem dX4_candles_0 : decode cX4_candles 0 = .ok (.aload_n 0, 1) := by decide +kernel
theorem dX4_candles_1 : decode cX4_candles 1 = .ok (.aload_n 0, 1) := by decide +kernel
theorem dX4_candles_2 : decode cX4_candles 2 = .ok (.getfield 13, 3) := by decide +kernel
theorem dX4_candles_5 : decode cX4_candles 5 = .ok (.iconst 3, 1) := by decide +kernel
theorem dX4_candles_6 : decode cX4_candles 6 = .ok (.iaload, 1) := by decide +kernel
theorem dX4_candles_7 : decode cX4_candles 7 = .ok (.invokevirtual 199, 3) := by decide +kernel
theorem dX4_candles_10 : decode cX4_candles 10 = .ok (.ireturn, 1) := by decide +kernel
theorem dX4_cakes_0 : decode cX4_cakes 0 = .ok (.iload_n 1, 1) := by decide +kernel
theorem dX4_cakes_1 : decode cX4_cakes 1 = .ok (.iconst 0, 1) := by decide +kernel
theorem dX4_cakes_2 : decode cX4_cakes 2 = .ok (.iconst 5, 1) := by decide +kernel
theorem dX4_cakes_3 : decode cX4_cakes 3 = .ok (.invokestatic 67, 3) := by decide +kernel
theorem dX4_cakes_6 : decode cX4_cakes 6 = .ok (.ifCond .eq 19, 3) := by decide +kernel
theorem dX4_cakes_9 : decode cX4_cakes 9 = .ok (.aload_n 0, 1) := by decide +kernel
theorem dX4_cakes_10 : decode cX4_cakes 10 = .ok (.aload_n 0, 1) := by decide +kernel
theorem dX4_cakes_11 : decode cX4_cakes 11 = .ok (.getfield 13, 3) := by decide +kernel
theorem dX4_cakes_14 : decode cX4_cakes 14 = .ok (.bipush 11, 2) := by decide +kernel
theorem dX4_cakes_16 : decode cX4_cakes 16 = .ok (.iload_n 1, 1) := by decide +kernel
theorem dX4_cakes_17 : decode cX4_cakes 17 = .ok (.iadd, 1) := by decide +kernel
theorem dX4_cakes_18 : decode cX4_cakes 18 = .ok (.iaload, 1) := by decide +kernel
theorem dX4_cakes_19 : decode cX4_cakes 19 = .ok (.invokevirtual 199, 3) := by decide +kernel
theorem dX4_cakes_22 : decode cX4_cakes 22 = .ok (.goto 8, 3) := by decide +kernel
theorem dX4_cakes_25 : decode cX4_cakes 25 = .ok (.aload_n 0, 1) := by decide +kernel
theorem dX4_cakes_26 : decode cX4_cakes 26 = .ok (.iconst 1, 1) := by decide +kernel
theorem dX4_cakes_27 : decode cX4_cakes 27 = .ok (.invokevirtual 193, 3) := by decide +kernel
theorem dX4_cakes_30 : decode cX4_cakes 30 = .ok (.ireturn, 1) := by decide +kernel
theorem dX4_mostWantedCake_0 : decode cX4_mostWantedCake 0 = .ok (.iconst 0, 1) := by decide +kernel
theorem dX4_mostWantedCake_1 : decode cX4_mostWantedCake 1 = .ok (.istore_n 1, 1) := by decide +kernel
theorem dX4_mostWantedCake_2 : decode cX4_mostWantedCake 2 = .ok (.iconst 1, 1) := by decide +kernel
theorem dX4_mostWantedCake_3 : decode cX4_mostWantedCake 3 = .ok (.istore_n 2, 1) := by decide +kernel
theorem dX4_mostWantedCake_4 : decode cX4_mostWantedCake 4 = .ok (.iload_n 2, 1) := by decide +kernel
theorem dX4_mostWantedCake_5 : decode cX4_mostWantedCake 5 = .ok (.bipush 6, 2) := by decide +kernel
theorem dX4_mostWantedCake_7 : decode cX4_mostWantedCake 7 = .ok (.if_icmp .ge 28, 3) := by decide +kernel
theorem dX4_mostWantedCake_10 : decode cX4_mostWantedCake 10 = .ok (.aload_n 0, 1) := by decide +kernel
theorem dX4_mostWantedCake_11 : decode cX4_mostWantedCake 11 = .ok (.iload_n 2, 1) := by decide +kernel
theorem dX4_mostWantedCake_12 : decode cX4_mostWantedCake 12 = .ok (.invokevirtual 74, 3) := by decide +kernel
theorem dX4_mostWantedCake_15 : decode cX4_mostWantedCake 15 = .ok (.aload_n 0, 1) := by decide +kernel
theorem dX4_mostWantedCake_16 : decode cX4_mostWantedCake 16 = .ok (.iload_n 1, 1) := by decide +kernel
theorem dX4_mostWantedCake_17 : decode cX4_mostWantedCake 17 = .ok (.invokevirtual 74, 3) := by decide +kernel
theorem dX4_mostWantedCake_20 : decode cX4_mostWantedCake 20 = .ok (.if_icmp .le 7, 3) := by decide +kernel
theorem dX4_mostWantedCake_23 : decode cX4_mostWantedCake 23 = .ok (.iload_n 2, 1) := by decide +kernel
theorem dX4_mostWantedCake_24 : decode cX4_mostWantedCake 24 = .ok (.goto 4, 3) := by decide +kernel
theorem dX4_mostWantedCake_27 : decode cX4_mostWantedCake 27 = .ok (.iload_n 1, 1) := by decide +kernel
theorem dX4_mostWantedCake_28 : decode cX4_mostWantedCake 28 = .ok (.istore_n 1, 1) := by decide +kernel
theorem dX4_mostWantedCake_29 : decode cX4_mostWantedCake 29 = .ok (.iinc 2 1, 3) := by decide +kernel
theorem dX4_mostWantedCake_32 : decode cX4_mostWantedCake 32 = .ok (.goto (-28), 3) := by decide +kernel
theorem dX4_mostWantedCake_35 : decode cX4_mostWantedCake 35 = .ok (.aload_n 0, 1) := by decide +kernel
theorem dX4_mostWantedCake_36 : decode cX4_mostWantedCake 36 = .ok (.iload_n 1, 1) := by decide +kernel
theorem dX4_mostWantedCake_37 : decode cX4_mostWantedCake 37 = .ok (.invokevirtual 199, 3) := by decide +kernel
theorem dX4_mostWantedCake_40 : decode cX4_mostWantedCake 40 = .ok (.ireturn, 1) := by decide +kernel
theorem dX4_gardenCount_0 : decode cX4_gardenCount 0 = .ok (.aload_n 0, 1) := by decide +kernel
theorem dX4_gardenCount_1 : decode cX4_gardenCount 1 = .ok (.aload_n 0, 1) := by decide +kernel
theorem dX4_gardenCount_2 : decode cX4_gardenCount 2 = .ok (.getfield 13, 3) := by decide +kernel
theorem dX4_gardenCount_5 : decode cX4_gardenCount 5 = .ok (.iconst 4, 1) := by decide +kernel
theorem dX4_gardenCount_6 : decode cX4_gardenCount 6 = .ok (.iaload, 1) := by decide +kernel
theorem dX4_gardenCount_7 : decode cX4_gardenCount 7 = .ok (.invokevirtual 199, 3) := by decide +kernel
theorem dX4_gardenCount_10 : decode cX4_gardenCount 10 = .ok (.ireturn, 1) := by decide +kernel
theorem dX4_seatsOf_0 : decode cX4_seatsOf 0 = .ok (.aload_n 0, 1) := by decide +kernel
theorem dX4_seatsOf_1 : decode cX4_seatsOf 1 = .ok (.iload_n 1, 1) := by decide +kernel
theorem dX4_seatsOf_2 : decode cX4_seatsOf 2 = .ok (.invokevirtual 217, 3) := by decide +kernel
theorem dX4_seatsOf_5 : decode cX4_seatsOf 5 = .ok (.ifCond .eq 19, 3) := by decide +kernel
theorem dX4_seatsOf_8 : decode cX4_seatsOf 8 = .ok (.aload_n 0, 1) := by decide +kernel
theorem dX4_seatsOf_9 : decode cX4_seatsOf 9 = .ok (.aload_n 0, 1) := by decide +kernel
theorem dX4_seatsOf_10 : decode cX4_seatsOf 10 = .ok (.getfield 13, 3) := by decide +kernel
theorem dX4_seatsOf_13 : decode cX4_seatsOf 13 = .ok (.bipush 17, 2) := by decide +kernel
theorem dX4_seatsOf_15 : decode cX4_seatsOf 15 = .ok (.iload_n 1, 1) := by decide +kernel
theorem dX4_seatsOf_16 : decode cX4_seatsOf 16 = .ok (.iadd, 1) := by decide +kernel
theorem dX4_seatsOf_17 : decode cX4_seatsOf 17 = .ok (.iaload, 1) := by decide +kernel
theorem dX4_seatsOf_18 : decode cX4_seatsOf 18 = .ok (.invokevirtual 199, 3) := by decide +kernel
theorem dX4_seatsOf_21 : decode cX4_seatsOf 21 = .ok (.goto 8, 3) := by decide +kernel
theorem dX4_seatsOf_24 : decode cX4_seatsOf 24 = .ok (.aload_n 0, 1) := by decide +kernel
theorem dX4_seatsOf_25 : decode cX4_seatsOf 25 = .ok (.iconst 1, 1) := by decide +kernel
theorem dX4_seatsOf_26 : decode cX4_seatsOf 26 = .ok (.invokevirtual 193, 3) := by decide +kernel
theorem dX4_seatsOf_29 : decode cX4_seatsOf 29 = .ok (.ireturn, 1) := by decide +kernel
theorem dX4_childrenOf_0 : decode cX4_childrenOf 0 = .ok (.aload_n 0, 1) := by decide +kernel
theorem dX4_childrenOf_1 : decode cX4_childrenOf 1 = .ok (.iload_n 1, 1) := by decide +kernel
theorem dX4_childrenOf_2 : decode cX4_childrenOf 2 = .ok (.invokevirtual 217, 3) := by decide +kernel
theorem dX4_childrenOf_5 : decode cX4_childrenOf 5 = .ok (.ifCond .ne 9, 3) := by decide +kernel
theorem dX4_childrenOf_8 : decode cX4_childrenOf 8 = .ok (.aload_n 0, 1) := by decide +kernel
theorem dX4_childrenOf_9 : decode cX4_childrenOf 9 = .ok (.iconst 1, 1) := by decide +kernel
theorem dX4_childrenOf_10 : decode cX4_childrenOf 10 = .ok (.invokevirtual 193, 3) := by decide +kernel
theorem dX4_childrenOf_13 : decode cX4_childrenOf 13 = .ok (.ireturn, 1) := by decide +kernel
theorem dX4_childrenOf_14 : decode cX4_childrenOf 14 = .ok (.iconst 0, 1) := by decide +kernel
theorem dX4_childrenOf_15 : decode cX4_childrenOf 15 = .ok (.istore_n 2, 1) := by decide +kernel
theorem dX4_childrenOf_16 : decode cX4_childrenOf 16 = .ok (.iconst 0, 1) := by decide +kernel
theorem dX4_childrenOf_17 : decode cX4_childrenOf 17 = .ok (.istore_n 3, 1) := by decide +kernel
theorem dX4_childrenOf_18 : decode cX4_childrenOf 18 = .ok (.iload_n 3, 1) := by decide +kernel
theorem dX4_childrenOf_19 : decode cX4_childrenOf 19 = .ok (.aload_n 0, 1) := by decide +kernel
theorem dX4_childrenOf_20 : decode cX4_childrenOf 20 = .ok (.getfield 13, 3) := by decide +kernel
theorem dX4_childrenOf_23 : decode cX4_childrenOf 23 = .ok (.iconst 5, 1) := by decide +kernel
theorem dX4_childrenOf_24 : decode cX4_childrenOf 24 = .ok (.iaload, 1) := by decide +kernel
theorem dX4_childrenOf_25 : decode cX4_childrenOf 25 = .ok (.if_icmp .ge 32, 3) := by decide +kernel
theorem dX4_childrenOf_28 : decode cX4_childrenOf 28 = .ok (.iload_n 2, 1) := by decide +kernel
theorem dX4_childrenOf_29 : decode cX4_childrenOf 29 = .ok (.aload_n 0, 1) := by decide +kernel
theorem dX4_childrenOf_30 : decode cX4_childrenOf 30 = .ok (.getfield 13, 3) := by decide +kernel
theorem dX4_childrenOf_33 : decode cX4_childrenOf 33 = .ok (.iload_n 3, 1) := by decide +kernel
theorem dX4_childrenOf_34 : decode cX4_childrenOf 34 = .ok (.invokestatic 50, 3) := by decide +kernel
theorem dX4_childrenOf_37 : decode cX4_childrenOf 37 = .ok (.iconst 3, 1) := by decide +kernel
theorem dX4_childrenOf_38 : decode cX4_childrenOf 38 = .ok (.iadd, 1) := by decide +kernel
theorem dX4_childrenOf_39 : decode cX4_childrenOf 39 = .ok (.iaload, 1) := by decide +kernel
theorem dX4_childrenOf_40 : decode cX4_childrenOf 40 = .ok (.iload_n 1, 1) := by decide +kernel
theorem dX4_childrenOf_41 : decode cX4_childrenOf 41 = .ok (.if_icmp .ne 7, 3) := by decide +kernel
theorem dX4_childrenOf_44 : decode cX4_childrenOf 44 = .ok (.iconst 1, 1) := by decide +kernel
theorem dX4_childrenOf_45 : decode cX4_childrenOf 45 = .ok (.goto 4, 3) := by decide +kernel
theorem dX4_childrenOf_48 : decode cX4_childrenOf 48 = .ok (.iconst 0, 1) := by decide +kernel
theorem dX4_childrenOf_49 : decode cX4_childrenOf 49 = .ok (.iadd, 1) := by decide +kernel
theorem dX4_childrenOf_50 : decode cX4_childrenOf 50 = .ok (.istore_n 2, 1) := by decide +kernel
theorem dX4_childrenOf_51 : decode cX4_childrenOf 51 = .ok (.iinc 3 1, 3) := by decide +kernel
theorem dX4_childrenOf_54 : decode cX4_childrenOf 54 = .ok (.goto (-36), 3) := by decide +kernel
theorem dX4_childrenOf_57 : decode cX4_childrenOf 57 = .ok (.aload_n 0, 1) := by decide +kernel
theorem dX4_childrenOf_58 : decode cX4_childrenOf 58 = .ok (.iload_n 2, 1) := by decide +kernel
theorem dX4_childrenOf_59 : decode cX4_childrenOf 59 = .ok (.invokevirtual 199, 3) := by decide +kernel
theorem dX4_childrenOf_62 : decode cX4_childrenOf 62 = .ok (.ireturn, 1) := by decide +kernel
theorem dX4_partyIn_0 : decode cX4_partyIn 0 = .ok (.aload_n 0, 1) := by decide +kernel
theorem dX4_partyIn_1 : decode cX4_partyIn 1 = .ok (.iload_n 1, 1) := by decide +kernel
theorem dX4_partyIn_2 : decode cX4_partyIn 2 = .ok (.invokevirtual 217, 3) := by decide +kernel
theorem dX4_partyIn_5 : decode cX4_partyIn 5 = .ok (.ifCond .ne 9, 3) := by decide +kernel
theorem dX4_partyIn_8 : decode cX4_partyIn 8 = .ok (.aload_n 0, 1) := by decide +kernel
theorem dX4_partyIn_9 : decode cX4_partyIn 9 = .ok (.iconst 1, 1) := by decide +kernel
theorem dX4_partyIn_10 : decode cX4_partyIn 10 = .ok (.invokevirtual 193, 3) := by decide +kernel
theorem dX4_partyIn_13 : decode cX4_partyIn 13 = .ok (.ireturn, 1) := by decide +kernel
theorem dX4_partyIn_14 : decode cX4_partyIn 14 = .ok (.iload_n 2, 1) := by decide +kernel
theorem dX4_partyIn_15 : decode cX4_partyIn 15 = .ok (.iload_n 3, 1) := by decide +kernel
theorem dX4_partyIn_16 : decode cX4_partyIn 16 = .ok (.invokestatic 220, 3) := by decide +kernel
theorem dX4_partyIn_19 : decode cX4_partyIn 19 = .ok (.ifCond .eq 20, 3) := by decide +kernel
theorem dX4_partyIn_22 : decode cX4_partyIn 22 = .ok (.aload_n 0, 1) := by decide +kernel
theorem dX4_partyIn_23 : decode cX4_partyIn 23 = .ok (.aload_n 0, 1) := by decide +kernel
theorem dX4_partyIn_24 : decode cX4_partyIn 24 = .ok (.iload_n 1, 1) := by decide +kernel
theorem dX4_partyIn_25 : decode cX4_partyIn 25 = .ok (.iload_n 2, 1) := by decide +kernel
theorem dX4_partyIn_26 : decode cX4_partyIn 26 = .ok (.iload_n 3, 1) := by decide +kernel
theorem dX4_partyIn_27 : decode cX4_partyIn 27 = .ok (.invokestatic 160, 3) := by decide +kernel
theorem dX4_partyIn_30 : decode cX4_partyIn 30 = .ok (.invokevirtual 224, 3) := by decide +kernel
theorem dX4_partyIn_33 : decode cX4_partyIn 33 = .ok (.invokevirtual 199, 3) := by decide +kernel
theorem dX4_partyIn_36 : decode cX4_partyIn 36 = .ok (.goto 8, 3) := by decide +kernel
theorem dX4_partyIn_39 : decode cX4_partyIn 39 = .ok (.aload_n 0, 1) := by decide +kernel
theorem dX4_partyIn_40 : decode cX4_partyIn 40 = .ok (.iconst 2, 1) := by decide +kernel
theorem dX4_partyIn_41 : decode cX4_partyIn 41 = .ok (.invokevirtual 193, 3) := by decide +kernel
theorem dX4_partyIn_44 : decode cX4_partyIn 44 = .ok (.ireturn, 1) := by decide +kernel
theorem dX4_childCount_0 : decode cX4_childCount 0 = .ok (.aload_n 0, 1) := by decide +kernel
theorem dX4_childCount_1 : decode cX4_childCount 1 = .ok (.aload_n 0, 1) := by decide +kernel
theorem dX4_childCount_2 : decode cX4_childCount 2 = .ok (.getfield 13, 3) := by decide +kernel
theorem dX4_childCount_5 : decode cX4_childCount 5 = .ok (.iconst 5, 1) := by decide +kernel
theorem dX4_childCount_6 : decode cX4_childCount 6 = .ok (.iaload, 1) := by decide +kernel
theorem dX4_childCount_7 : decode cX4_childCount 7 = .ok (.invokevirtual 199, 3) := by decide +kernel
theorem dX4_childCount_10 : decode cX4_childCount 10 = .ok (.ireturn, 1) := by decide +kernel
theorem dX4_ofChild_0 : decode cX4_ofChild 0 = .ok (.aload_n 0, 1) := by decide +kernel
theorem dX4_ofChild_1 : decode cX4_ofChild 1 = .ok (.iload_n 1, 1) := by decide +kernel
theorem dX4_ofChild_2 : decode cX4_ofChild 2 = .ok (.invokevirtual 227, 3) := by decide +kernel
theorem dX4_ofChild_5 : decode cX4_ofChild 5 = .ok (.ifCond .eq 21, 3) := by decide +kernel
theorem dX4_ofChild_8 : decode cX4_ofChild 8 = .ok (.aload_n 0, 1) := by decide +kernel
theorem dX4_ofChild_9 : decode cX4_ofChild 9 = .ok (.aload_n 0, 1) := by decide +kernel
theorem dX4_ofChild_10 : decode cX4_ofChild 10 = .ok (.getfield 13, 3) := by decide +kernel
theorem dX4_ofChild_13 : decode cX4_ofChild 13 = .ok (.iload_n 1, 1) := by decide +kernel
theorem dX4_ofChild_14 : decode cX4_ofChild 14 = .ok (.invokestatic 50, 3) := by decide +kernel
theorem dX4_ofChild_17 : decode cX4_ofChild 17 = .ok (.iload_n 2, 1) := by decide +kernel
theorem dX4_ofChild_18 : decode cX4_ofChild 18 = .ok (.iadd, 1) := by decide +kernel
theorem dX4_ofChild_19 : decode cX4_ofChild 19 = .ok (.iaload, 1) := by decide +kernel
theorem dX4_ofChild_20 : decode cX4_ofChild 20 = .ok (.invokevirtual 199, 3) := by decide +kernel
theorem dX4_ofChild_23 : decode cX4_ofChild 23 = .ok (.goto 8, 3) := by decide +kernel
theorem dX4_ofChild_26 : decode cX4_ofChild 26 = .ok (.aload_n 0, 1) := by decide +kernel
theorem dX4_ofChild_27 : decode cX4_ofChild 27 = .ok (.iconst 1, 1) := by decide +kernel
theorem dX4_ofChild_28 : decode cX4_ofChild 28 = .ok (.invokevirtual 193, 3) := by decide +kernel
theorem dX4_ofChild_31 : decode cX4_ofChild 31 = .ok (.ireturn, 1) := by decide +kernel
theorem dX4_cakeOf_0 : decode cX4_cakeOf 0 = .ok (.aload_n 0, 1) := by decide +kernel
theorem dX4_cakeOf_1 : decode cX4_cakeOf 1 = .ok (.iload_n 1, 1) := by decide +kernel
theorem dX4_cakeOf_2 : decode cX4_cakeOf 2 = .ok (.iconst 0, 1) := by decide +kernel
theorem dX4_cakeOf_3 : decode cX4_cakeOf 3 = .ok (.invokevirtual 230, 3) := by decide +kernel
theorem dX4_cakeOf_6 : decode cX4_cakeOf 6 = .ok (.ireturn, 1) := by decide +kernel
theorem dX4_breathOf_0 : decode cX4_breathOf 0 = .ok (.aload_n 0, 1) := by decide +kernel
theorem dX4_breathOf_1 : decode cX4_breathOf 1 = .ok (.iload_n 1, 1) := by decide +kernel
theorem dX4_breathOf_2 : decode cX4_breathOf 2 = .ok (.iconst 1, 1) := by decide +kernel
theorem dX4_breathOf_3 : decode cX4_breathOf 3 = .ok (.invokevirtual 230, 3) := by decide +kernel
theorem dX4_breathOf_6 : decode cX4_breathOf 6 = .ok (.ireturn, 1) := by decide +kernel
theorem dX4_ageOf_0 : decode cX4_ageOf 0 = .ok (.aload_n 0, 1) := by decide +kernel
theorem dX4_ageOf_1 : decode cX4_ageOf 1 = .ok (.iload_n 1, 1) := by decide +kernel
theorem dX4_ageOf_2 : decode cX4_ageOf 2 = .ok (.iconst 2, 1) := by decide +kernel
theorem dX4_ageOf_3 : decode cX4_ageOf 3 = .ok (.invokevirtual 230, 3) := by decide +kernel
theorem dX4_ageOf_6 : decode cX4_ageOf 6 = .ok (.ireturn, 1) := by decide +kernel
theorem dX4_gardenOf_0 : decode cX4_gardenOf 0 = .ok (.aload_n 0, 1) := by decide +kernel
theorem dX4_gardenOf_1 : decode cX4_gardenOf 1 = .ok (.iload_n 1, 1) := by decide +kernel
theorem dX4_gardenOf_2 : decode cX4_gardenOf 2 = .ok (.iconst 3, 1) := by decide +kernel
theorem dX4_gardenOf_3 : decode cX4_gardenOf 3 = .ok (.invokevirtual 230, 3) := by decide +kernel
theorem dX4_gardenOf_6 : decode cX4_gardenOf 6 = .ok (.ireturn, 1) := by decide +kernel
theorem dX4_birthdayOf_0 : decode cX4_birthdayOf 0 = .ok (.aload_n 0, 1) := by decide +kernel
theorem dX4_birthdayOf_1 : decode cX4_birthdayOf 1 = .ok (.iload_n 1, 1) := by decide +kernel
theorem dX4_birthdayOf_2 : decode cX4_birthdayOf 2 = .ok (.iconst 4, 1) := by decide +kernel
theorem dX4_birthdayOf_3 : decode cX4_birthdayOf 3 = .ok (.invokevirtual 230, 3) := by decide +kernel
theorem dX4_birthdayOf_6 : decode cX4_birthdayOf 6 = .ok (.ireturn, 1) := by decide +kernel
theorem dX4_hasBirthday_0 : decode cX4_hasBirthday 0 = .ok (.aload_n 0, 1) := by decide +kernel
theorem dX4_hasBirthday_1 : decode cX4_hasBirthday 1 = .ok (.getfield 13, 3) := by decide +kernel
theorem dX4_hasBirthday_4 : decode cX4_hasBirthday 4 = .ok (.iload_n 1, 1) := by decide +kernel
theorem dX4_hasBirthday_5 : decode cX4_hasBirthday 5 = .ok (.invokestatic 50, 3) := by decide +kernel
theorem dX4_hasBirthday_8 : decode cX4_hasBirthday 8 = .ok (.iconst 4, 1) := by decide +kernel
theorem dX4_hasBirthday_9 : decode cX4_hasBirthday 9 = .ok (.iadd, 1) := by decide +kernel
theorem dX4_hasBirthday_10 : decode cX4_hasBirthday 10 = .ok (.iaload, 1) := by decide +kernel
theorem dX4_hasBirthday_11 : decode cX4_hasBirthday 11 = .ok (.iconst (-1), 1) := by decide +kernel
theorem dX4_hasBirthday_12 : decode cX4_hasBirthday 12 = .ok (.if_icmp .eq 7, 3) := by decide +kernel
theorem dX4_hasBirthday_15 : decode cX4_hasBirthday 15 = .ok (.iconst 1, 1) := by decide +kernel
theorem dX4_hasBirthday_16 : decode cX4_hasBirthday 16 = .ok (.goto 4, 3) := by decide +kernel
theorem dX4_hasBirthday_19 : decode cX4_hasBirthday 19 = .ok (.iconst 0, 1) := by decide +kernel
theorem dX4_hasBirthday_20 : decode cX4_hasBirthday 20 = .ok (.ireturn, 1) := by decide +kernel
theorem dX4_daysUntilBirthday_0 : decode cX4_daysUntilBirthday 0 = .ok (.aload_n 0, 1) := by decide +kernel
theorem dX4_daysUntilBirthday_1 : decode cX4_daysUntilBirthday 1 = .ok (.iload_n 1, 1) := by decide +kernel
theorem dX4_daysUntilBirthday_2 : decode cX4_daysUntilBirthday 2 = .ok (.invokevirtual 227, 3) := by decide +kernel
theorem dX4_daysUntilBirthday_5 : decode cX4_daysUntilBirthday 5 = .ok (.ifCond .ne 9, 3) := by decide +kernel
theorem dX4_daysUntilBirthday_8 : decode cX4_daysUntilBirthday 8 = .ok (.aload_n 0, 1) := by decide +kernel
theorem dX4_daysUntilBirthday_9 : decode cX4_daysUntilBirthday 9 = .ok (.iconst 1, 1) := by decide +kernel
theorem dX4_daysUntilBirthday_10 : decode cX4_daysUntilBirthday 10 = .ok (.invokevirtual 193, 3) := by decide +kernel
theorem dX4_daysUntilBirthday_13 : decode cX4_daysUntilBirthday 13 = .ok (.ireturn, 1) := by decide +kernel
theorem dX4_daysUntilBirthday_14 : decode cX4_daysUntilBirthday 14 = .ok (.aload_n 0, 1) := by decide +kernel
theorem dX4_daysUntilBirthday_15 : decode cX4_daysUntilBirthday 15 = .ok (.aload_n 0, 1) := by decide +kernel
theorem dX4_daysUntilBirthday_16 : decode cX4_daysUntilBirthday 16 = .ok (.iload_n 1, 1) := by decide +kernel
theorem dX4_daysUntilBirthday_17 : decode cX4_daysUntilBirthday 17 = .ok (.invokevirtual 233, 3) := by decide +kernel
theorem dX4_daysUntilBirthday_20 : decode cX4_daysUntilBirthday 20 = .ok (.ifCond .eq 21, 3) := by decide +kernel
theorem dX4_daysUntilBirthday_23 : decode cX4_daysUntilBirthday 23 = .ok (.aload_n 0, 1) := by decide +kernel
theorem dX4_daysUntilBirthday_24 : decode cX4_daysUntilBirthday 24 = .ok (.aload_n 0, 1) := by decide +kernel
theorem dX4_daysUntilBirthday_25 : decode cX4_daysUntilBirthday 25 = .ok (.getfield 13, 3) := by decide +kernel
theorem dX4_daysUntilBirthday_28 : decode cX4_daysUntilBirthday 28 = .ok (.iload_n 1, 1) := by decide +kernel
theorem dX4_daysUntilBirthday_29 : decode cX4_daysUntilBirthday 29 = .ok (.invokestatic 50, 3) := by decide +kernel
theorem dX4_daysUntilBirthday_32 : decode cX4_daysUntilBirthday 32 = .ok (.iconst 4, 1) := by decide +kernel
theorem dX4_daysUntilBirthday_33 : decode cX4_daysUntilBirthday 33 = .ok (.iadd, 1) := by decide +kernel
theorem dX4_daysUntilBirthday_34 : decode cX4_daysUntilBirthday 34 = .ok (.iaload, 1) := by decide +kernel
theorem dX4_daysUntilBirthday_35 : decode cX4_daysUntilBirthday 35 = .ok (.invokevirtual 236, 3) := by decide +kernel
theorem dX4_daysUntilBirthday_38 : decode cX4_daysUntilBirthday 38 = .ok (.goto 4, 3) := by decide +kernel
theorem dX4_daysUntilBirthday_41 : decode cX4_daysUntilBirthday 41 = .ok (.iconst (-1), 1) := by decide +kernel
theorem dX4_daysUntilBirthday_42 : decode cX4_daysUntilBirthday 42 = .ok (.invokevirtual 199, 3) := by decide +kernel
theorem dX4_daysUntilBirthday_45 : decode cX4_daysUntilBirthday 45 = .ok (.ireturn, 1) := by decide +kernel
theorem dX4_partiesOf_0 : decode cX4_partiesOf 0 = .ok (.aload_n 0, 1) := by decide +kernel
theorem dX4_partiesOf_1 : decode cX4_partiesOf 1 = .ok (.iload_n 1, 1) := by decide +kernel
theorem dX4_partiesOf_2 : decode cX4_partiesOf 2 = .ok (.iconst 5, 1) := by decide +kernel
theorem dX4_partiesOf_3 : decode cX4_partiesOf 3 = .ok (.invokevirtual 230, 3) := by decide +kernel
theorem dX4_partiesOf_6 : decode cX4_partiesOf 6 = .ok (.ireturn, 1) := by decide +kernel
theorem dX4_wishesOf_0 : decode cX4_wishesOf 0 = .ok (.aload_n 0, 1) := by decide +kernel
theorem dX4_wishesOf_1 : decode cX4_wishesOf 1 = .ok (.iload_n 1, 1) := by decide +kernel
theorem dX4_wishesOf_2 : decode cX4_wishesOf 2 = .ok (.bipush 6, 2) := by decide +kernel
theorem dX4_wishesOf_4 : decode cX4_wishesOf 4 = .ok (.invokevirtual 230, 3) := by decide +kernel
theorem dX4_wishesOf_7 : decode cX4_wishesOf 7 = .ok (.ireturn, 1) := by decide +kernel
theorem dX4_strengthOf_0 : decode cX4_strengthOf 0 = .ok (.aload_n 0, 1) := by decide +kernel
theorem dX4_strengthOf_1 : decode cX4_strengthOf 1 = .ok (.iload_n 1, 1) := by decide +kernel
theorem dX4_strengthOf_2 : decode cX4_strengthOf 2 = .ok (.invokevirtual 227, 3) := by decide +kernel
theorem dX4_strengthOf_5 : decode cX4_strengthOf 5 = .ok (.ifCond .eq 26, 3) := by decide +kernel
theorem dX4_strengthOf_8 : decode cX4_strengthOf 8 = .ok (.aload_n 0, 1) := by decide +kernel
theorem dX4_strengthOf_9 : decode cX4_strengthOf 9 = .ok (.aload_n 0, 1) := by decide +kernel
theorem dX4_strengthOf_10 : decode cX4_strengthOf 10 = .ok (.iload_n 1, 1) := by decide +kernel
theorem dX4_strengthOf_11 : decode cX4_strengthOf 11 = .ok (.aload_n 0, 1) := by decide +kernel
theorem dX4_strengthOf_12 : decode cX4_strengthOf 12 = .ok (.getfield 13, 3) := by decide +kernel
theorem dX4_strengthOf_15 : decode cX4_strengthOf 15 = .ok (.iload_n 1, 1) := by decide +kernel
theorem dX4_strengthOf_16 : decode cX4_strengthOf 16 = .ok (.invokestatic 50, 3) := by decide +kernel
theorem dX4_strengthOf_19 : decode cX4_strengthOf 19 = .ok (.iconst 0, 1) := by decide +kernel
theorem dX4_strengthOf_20 : decode cX4_strengthOf 20 = .ok (.iadd, 1) := by decide +kernel
theorem dX4_strengthOf_21 : decode cX4_strengthOf 21 = .ok (.iaload, 1) := by decide +kernel
theorem dX4_strengthOf_22 : decode cX4_strengthOf 22 = .ok (.invokevirtual 93, 3) := by decide +kernel
theorem dX4_strengthOf_25 : decode cX4_strengthOf 25 = .ok (.invokevirtual 199, 3) := by decide +kernel
theorem dX4_strengthOf_28 : decode cX4_strengthOf 28 = .ok (.goto 8, 3) := by decide +kernel
theorem dX4_strengthOf_31 : decode cX4_strengthOf 31 = .ok (.aload_n 0, 1) := by decide +kernel
theorem dX4_strengthOf_32 : decode cX4_strengthOf 32 = .ok (.iconst 1, 1) := by decide +kernel
theorem dX4_strengthOf_33 : decode cX4_strengthOf 33 = .ok (.invokevirtual 193, 3) := by decide +kernel
theorem dX4_strengthOf_36 : decode cX4_strengthOf 36 = .ok (.ireturn, 1) := by decide +kernel
theorem dX4_nextChild_0 : decode cX4_nextChild 0 = .ok (.iconst (-1), 1) := by decide +kernel
theorem dX4_nextChild_1 : decode cX4_nextChild 1 = .ok (.istore_n 1, 1) := by decide +kernel
theorem dX4_nextChild_2 : decode cX4_nextChild 2 = .ok (.iconst 0, 1) := by decide +kernel
theorem dX4_nextChild_3 : decode cX4_nextChild 3 = .ok (.istore_n 2, 1) := by decide +kernel
theorem dX4_nextChild_4 : decode cX4_nextChild 4 = .ok (.iconst 0, 1) := by decide +kernel
theorem dX4_nextChild_5 : decode cX4_nextChild 5 = .ok (.istore_n 3, 1) := by decide +kernel
theorem dX4_nextChild_6 : decode cX4_nextChild 6 = .ok (.iload_n 3, 1) := by decide +kernel
theorem dX4_nextChild_7 : decode cX4_nextChild 7 = .ok (.aload_n 0, 1) := by decide +kernel
theorem dX4_nextChild_8 : decode cX4_nextChild 8 = .ok (.getfield 13, 3) := by decide +kernel
theorem dX4_nextChild_11 : decode cX4_nextChild 11 = .ok (.iconst 5, 1) := by decide +kernel
theorem dX4_nextChild_12 : decode cX4_nextChild 12 = .ok (.iaload, 1) := by decide +kernel
theorem dX4_nextChild_13 : decode cX4_nextChild 13 = .ok (.if_icmp .ge 50, 3) := by decide +kernel
theorem dX4_nextChild_16 : decode cX4_nextChild 16 = .ok (.aload_n 0, 1) := by decide +kernel
theorem dX4_nextChild_17 : decode cX4_nextChild 17 = .ok (.aload_n 0, 1) := by decide +kernel
theorem dX4_nextChild_18 : decode cX4_nextChild 18 = .ok (.getfield 13, 3) := by decide +kernel
theorem dX4_nextChild_21 : decode cX4_nextChild 21 = .ok (.iload_n 3, 1) := by decide +kernel
theorem dX4_nextChild_22 : decode cX4_nextChild 22 = .ok (.invokestatic 50, 3) := by decide +kernel
theorem dX4_nextChild_25 : decode cX4_nextChild 25 = .ok (.iconst 4, 1) := by decide +kernel
theorem dX4_nextChild_26 : decode cX4_nextChild 26 = .ok (.iadd, 1) := by decide +kernel
theorem dX4_nextChild_27 : decode cX4_nextChild 27 = .ok (.iaload, 1) := by decide +kernel
theorem dX4_nextChild_28 : decode cX4_nextChild 28 = .ok (.invokevirtual 236, 3) := by decide +kernel
theorem dX4_nextChild_31 : decode cX4_nextChild 31 = .ok (.istore 4, 2) := by decide +kernel
theorem dX4_nextChild_33 : decode cX4_nextChild 33 = .ok (.aload_n 0, 1) := by decide +kernel
theorem dX4_nextChild_34 : decode cX4_nextChild 34 = .ok (.iload_n 3, 1) := by decide +kernel
theorem dX4_nextChild_35 : decode cX4_nextChild 35 = .ok (.invokevirtual 233, 3) := by decide +kernel
theorem dX4_nextChild_38 : decode cX4_nextChild 38 = .ok (.ifCond .eq 19, 3) := by decide +kernel
theorem dX4_nextChild_41 : decode cX4_nextChild 41 = .ok (.iload_n 1, 1) := by decide +kernel
theorem dX4_nextChild_42 : decode cX4_nextChild 42 = .ok (.iconst (-1), 1) := by decide +kernel
theorem dX4_nextChild_43 : decode cX4_nextChild 43 = .ok (.if_icmp .eq 9, 3) := by decide +kernel
theorem dX4_nextChild_46 : decode cX4_nextChild 46 = .ok (.iload 4, 2) := by decide +kernel
theorem dX4_nextChild_48 : decode cX4_nextChild 48 = .ok (.iload_n 2, 1) := by decide +kernel
theorem dX4_nextChild_49 : decode cX4_nextChild 49 = .ok (.if_icmp .ge 8, 3) := by decide +kernel
theorem dX4_nextChild_52 : decode cX4_nextChild 52 = .ok (.iload_n 3, 1) := by decide +kernel
theorem dX4_nextChild_53 : decode cX4_nextChild 53 = .ok (.istore_n 1, 1) := by decide +kernel
theorem dX4_nextChild_54 : decode cX4_nextChild 54 = .ok (.iload 4, 2) := by decide +kernel
theorem dX4_nextChild_56 : decode cX4_nextChild 56 = .ok (.istore_n 2, 1) := by decide +kernel
theorem dX4_nextChild_57 : decode cX4_nextChild 57 = .ok (.iinc 3 1, 3) := by decide +kernel
theorem dX4_nextChild_60 : decode cX4_nextChild 60 = .ok (.goto (-54), 3) := by decide +kernel
theorem dX4_nextChild_63 : decode cX4_nextChild 63 = .ok (.aload_n 0, 1) := by decide +kernel
theorem dX4_nextChild_64 : decode cX4_nextChild 64 = .ok (.iload_n 1, 1) := by decide +kernel
theorem dX4_nextChild_65 : decode cX4_nextChild 65 = .ok (.invokevirtual 199, 3) := by decide +kernel
theorem dX4_nextChild_68 : decode cX4_nextChild 68 = .ok (.ireturn, 1) := by decide +kernel
theorem dX4_sharing_0 : decode cX4_sharing 0 = .ok (.iconst 0, 1) := by decide +kernel
theorem dX4_sharing_1 : decode cX4_sharing 1 = .ok (.istore_n 2, 1) := by decide +kernel
theorem dX4_sharing_2 : decode cX4_sharing 2 = .ok (.iconst 0, 1) := by decide +kernel
theorem dX4_sharing_3 : decode cX4_sharing 3 = .ok (.istore_n 3, 1) := by decide +kernel
theorem dX4_sharing_4 : decode cX4_sharing 4 = .ok (.iload_n 3, 1) := by decide +kernel
theorem dX4_sharing_5 : decode cX4_sharing 5 = .ok (.aload_n 0, 1) := by decide +kernel
theorem dX4_sharing_6 : decode cX4_sharing 6 = .ok (.getfield 13, 3) := by decide +kernel
theorem dX4_sharing_9 : decode cX4_sharing 9 = .ok (.iconst 5, 1) := by decide +kernel
theorem dX4_sharing_10 : decode cX4_sharing 10 = .ok (.iaload, 1) := by decide +kernel
theorem dX4_sharing_11 : decode cX4_sharing 11 = .ok (.if_icmp .ge 32, 3) := by decide +kernel
theorem dX4_sharing_14 : decode cX4_sharing 14 = .ok (.iload_n 2, 1) := by decide +kernel
theorem dX4_sharing_15 : decode cX4_sharing 15 = .ok (.aload_n 0, 1) := by decide +kernel
theorem dX4_sharing_16 : decode cX4_sharing 16 = .ok (.getfield 13, 3) := by decide +kernel
theorem dX4_sharing_19 : decode cX4_sharing 19 = .ok (.iload_n 3, 1) := by decide +kernel
theorem dX4_sharing_20 : decode cX4_sharing 20 = .ok (.invokestatic 50, 3) := by decide +kernel
theorem dX4_sharing_23 : decode cX4_sharing 23 = .ok (.iconst 4, 1) := by decide +kernel
theorem dX4_sharing_24 : decode cX4_sharing 24 = .ok (.iadd, 1) := by decide +kernel
theorem dX4_sharing_25 : decode cX4_sharing 25 = .ok (.iaload, 1) := by decide +kernel
theorem dX4_sharing_26 : decode cX4_sharing 26 = .ok (.iload_n 1, 1) := by decide +kernel
theorem dX4_sharing_27 : decode cX4_sharing 27 = .ok (.if_icmp .ne 7, 3) := by decide +kernel
theorem dX4_sharing_30 : decode cX4_sharing 30 = .ok (.iconst 1, 1) := by decide +kernel
theorem dX4_sharing_31 : decode cX4_sharing 31 = .ok (.goto 4, 3) := by decide +kernel
theorem dX4_sharing_34 : decode cX4_sharing 34 = .ok (.iconst 0, 1) := by decide +kernel
theorem dX4_sharing_35 : decode cX4_sharing 35 = .ok (.iadd, 1) := by decide +kernel
theorem dX4_sharing_36 : decode cX4_sharing 36 = .ok (.istore_n 2, 1) := by decide +kernel
theorem dX4_sharing_37 : decode cX4_sharing 37 = .ok (.iinc 3 1, 3) := by decide +kernel
theorem dX4_sharing_40 : decode cX4_sharing 40 = .ok (.goto (-36), 3) := by decide +kernel
theorem dX4_sharing_43 : decode cX4_sharing 43 = .ok (.iload_n 2, 1) := by decide +kernel
theorem dX4_sharing_44 : decode cX4_sharing 44 = .ok (.ireturn, 1) := by decide +kernel
theorem dX4_childrenOn_0 : decode cX4_childrenOn 0 = .ok (.iload_n 1, 1) := by decide +kernel
theorem dX4_childrenOn_1 : decode cX4_childrenOn 1 = .ok (.iload_n 2, 1) := by decide +kernel
theorem dX4_childrenOn_2 : decode cX4_childrenOn 2 = .ok (.invokestatic 220, 3) := by decide +kernel
theorem dX4_childrenOn_5 : decode cX4_childrenOn 5 = .ok (.ifCond .eq 19, 3) := by decide +kernel
theorem dX4_childrenOn_8 : decode cX4_childrenOn 8 = .ok (.aload_n 0, 1) := by decide +kernel
theorem dX4_childrenOn_9 : decode cX4_childrenOn 9 = .ok (.aload_n 0, 1) := by decide +kernel
theorem dX4_childrenOn_10 : decode cX4_childrenOn 10 = .ok (.iload_n 1, 1) := by decide +kernel
theorem dX4_childrenOn_11 : decode cX4_childrenOn 11 = .ok (.iload_n 2, 1) := by decide +kernel
theorem dX4_childrenOn_12 : decode cX4_childrenOn 12 = .ok (.invokestatic 160, 3) := by decide +kernel
theorem dX4_childrenOn_15 : decode cX4_childrenOn 15 = .ok (.invokevirtual 239, 3) := by decide +kernel
theorem dX4_childrenOn_18 : decode cX4_childrenOn 18 = .ok (.invokevirtual 199, 3) := by decide +kernel
theorem dX4_childrenOn_21 : decode cX4_childrenOn 21 = .ok (.goto 8, 3) := by decide +kernel
theorem dX4_childrenOn_24 : decode cX4_childrenOn 24 = .ok (.aload_n 0, 1) := by decide +kernel
theorem dX4_childrenOn_25 : decode cX4_childrenOn 25 = .ok (.iconst 1, 1) := by decide +kernel
theorem dX4_childrenOn_26 : decode cX4_childrenOn 26 = .ok (.invokevirtual 193, 3) := by decide +kernel
theorem dX4_childrenOn_29 : decode cX4_childrenOn 29 = .ok (.ireturn, 1) := by decide +kernel
theorem dX4_isFirst_0 : decode cX4_isFirst 0 = .ok (.iconst 0, 1) := by decide +kernel
theorem dX4_isFirst_1 : decode cX4_isFirst 1 = .ok (.istore_n 2, 1) := by decide +kernel
theorem dX4_isFirst_2 : decode cX4_isFirst 2 = .ok (.iload_n 2, 1) := by decide +kernel
theorem dX4_isFirst_3 : decode cX4_isFirst 3 = .ok (.iload_n 1, 1) := by decide +kernel
theorem dX4_isFirst_4 : decode cX4_isFirst 4 = .ok (.if_icmp .ge 36, 3) := by decide +kernel
theorem dX4_isFirst_7 : decode cX4_isFirst 7 = .ok (.aload_n 0, 1) := by decide +kernel
theorem dX4_isFirst_8 : decode cX4_isFirst 8 = .ok (.getfield 13, 3) := by decide +kernel
theorem dX4_isFirst_11 : decode cX4_isFirst 11 = .ok (.iload_n 2, 1) := by decide +kernel
theorem dX4_isFirst_12 : decode cX4_isFirst 12 = .ok (.invokestatic 50, 3) := by decide +kernel
theorem dX4_isFirst_15 : decode cX4_isFirst 15 = .ok (.iconst 4, 1) := by decide +kernel
theorem dX4_isFirst_16 : decode cX4_isFirst 16 = .ok (.iadd, 1) := by decide +kernel
theorem dX4_isFirst_17 : decode cX4_isFirst 17 = .ok (.iaload, 1) := by decide +kernel
theorem dX4_isFirst_18 : decode cX4_isFirst 18 = .ok (.aload_n 0, 1) := by decide +kernel
theorem dX4_isFirst_19 : decode cX4_isFirst 19 = .ok (.getfield 13, 3) := by decide +kernel
theorem dX4_isFirst_22 : decode cX4_isFirst 22 = .ok (.iload_n 1, 1) := by decide +kernel
theorem dX4_isFirst_23 : decode cX4_isFirst 23 = .ok (.invokestatic 50, 3) := by decide +kernel
theorem dX4_isFirst_26 : decode cX4_isFirst 26 = .ok (.iconst 4, 1) := by decide +kernel
theorem dX4_isFirst_27 : decode cX4_isFirst 27 = .ok (.iadd, 1) := by decide +kernel
theorem dX4_isFirst_28 : decode cX4_isFirst 28 = .ok (.iaload, 1) := by decide +kernel
theorem dX4_isFirst_29 : decode cX4_isFirst 29 = .ok (.if_icmp .ne 5, 3) := by decide +kernel
theorem dX4_isFirst_32 : decode cX4_isFirst 32 = .ok (.iconst 0, 1) := by decide +kernel
theorem dX4_isFirst_33 : decode cX4_isFirst 33 = .ok (.ireturn, 1) := by decide +kernel
theorem dX4_isFirst_34 : decode cX4_isFirst 34 = .ok (.iinc 2 1, 3) := by decide +kernel
theorem dX4_isFirst_37 : decode cX4_isFirst 37 = .ok (.goto (-35), 3) := by decide +kernel
theorem dX4_isFirst_40 : decode cX4_isFirst 40 = .ok (.aload_n 0, 1) := by decide +kernel
theorem dX4_isFirst_41 : decode cX4_isFirst 41 = .ok (.iload_n 1, 1) := by decide +kernel
theorem dX4_isFirst_42 : decode cX4_isFirst 42 = .ok (.invokevirtual 233, 3) := by decide +kernel
theorem dX4_isFirst_45 : decode cX4_isFirst 45 = .ok (.ireturn, 1) := by decide +kernel
theorem dX4_differentDates_0 : decode cX4_differentDates 0 = .ok (.iconst 0, 1) := by decide +kernel
theorem dX4_differentDates_1 : decode cX4_differentDates 1 = .ok (.istore_n 1, 1) := by decide +kernel
theorem dX4_differentDates_2 : decode cX4_differentDates 2 = .ok (.iconst 0, 1) := by decide +kernel
theorem dX4_differentDates_3 : decode cX4_differentDates 3 = .ok (.istore_n 2, 1) := by decide +kernel
theorem dX4_differentDates_4 : decode cX4_differentDates 4 = .ok (.iload_n 2, 1) := by decide +kernel
theorem dX4_differentDates_5 : decode cX4_differentDates 5 = .ok (.aload_n 0, 1) := by decide +kernel
theorem dX4_differentDates_6 : decode cX4_differentDates 6 = .ok (.getfield 13, 3) := by decide +kernel
theorem dX4_differentDates_9 : decode cX4_differentDates 9 = .ok (.iconst 5, 1) := by decide +kernel
theorem dX4_differentDates_10 : decode cX4_differentDates 10 = .ok (.iaload, 1) := by decide +kernel
theorem dX4_differentDates_11 : decode cX4_differentDates 11 = .ok (.if_icmp .ge 25, 3) := by decide +kernel
theorem dX4_differentDates_14 : decode cX4_differentDates 14 = .ok (.iload_n 1, 1) := by decide +kernel
theorem dX4_differentDates_15 : decode cX4_differentDates 15 = .ok (.aload_n 0, 1) := by decide +kernel
theorem dX4_differentDates_16 : decode cX4_differentDates 16 = .ok (.iload_n 2, 1) := by decide +kernel
theorem dX4_differentDates_17 : decode cX4_differentDates 17 = .ok (.invokevirtual 242, 3) := by decide +kernel
theorem dX4_differentDates_20 : decode cX4_differentDates 20 = .ok (.ifCond .eq 7, 3) := by decide +kernel
theorem dX4_differentDates_23 : decode cX4_differentDates 23 = .ok (.iconst 1, 1) := by decide +kernel
theorem dX4_differentDates_24 : decode cX4_differentDates 24 = .ok (.goto 4, 3) := by decide +kernel
theorem dX4_differentDates_27 : decode cX4_differentDates 27 = .ok (.iconst 0, 1) := by decide +kernel
theorem dX4_differentDates_28 : decode cX4_differentDates 28 = .ok (.iadd, 1) := by decide +kernel
theorem dX4_differentDates_29 : decode cX4_differentDates 29 = .ok (.istore_n 1, 1) := by decide +kernel
theorem dX4_differentDates_30 : decode cX4_differentDates 30 = .ok (.iinc 2 1, 3) := by decide +kernel
theorem dX4_differentDates_33 : decode cX4_differentDates 33 = .ok (.goto (-29), 3) := by decide +kernel
theorem dX4_differentDates_36 : decode cX4_differentDates 36 = .ok (.aload_n 0, 1) := by decide +kernel
theorem dX4_differentDates_37 : decode cX4_differentDates 37 = .ok (.iload_n 1, 1) := by decide +kernel
theorem dX4_differentDates_38 : decode cX4_differentDates 38 = .ok (.invokevirtual 199, 3) := by decide +kernel
theorem dX4_differentDates_41 : decode cX4_differentDates 41 = .ok (.ireturn, 1) := by decide +kernel
theorem dX4_dateAt_0 : decode cX4_dateAt 0 = .ok (.iconst 0, 1) := by decide +kernel
theorem dX4_dateAt_1 : decode cX4_dateAt 1 = .ok (.istore_n 2, 1) := by decide +kernel
theorem dX4_dateAt_2 : decode cX4_dateAt 2 = .ok (.iconst 0, 1) := by decide +kernel
theorem dX4_dateAt_3 : decode cX4_dateAt 3 = .ok (.istore_n 3, 1) := by decide +kernel
theorem dX4_dateAt_4 : decode cX4_dateAt 4 = .ok (.iload_n 3, 1) := by decide +kernel
theorem dX4_dateAt_5 : decode cX4_dateAt 5 = .ok (.aload_n 0, 1) := by decide +kernel
theorem dX4_dateAt_6 : decode cX4_dateAt 6 = .ok (.getfield 13, 3) := by decide +kernel
theorem dX4_dateAt_9 : decode cX4_dateAt 9 = .ok (.iconst 5, 1) := by decide +kernel
theorem dX4_dateAt_10 : decode cX4_dateAt 10 = .ok (.iaload, 1) := by decide +kernel
theorem dX4_dateAt_11 : decode cX4_dateAt 11 = .ok (.if_icmp .ge 41, 3) := by decide +kernel
theorem dX4_dateAt_14 : decode cX4_dateAt 14 = .ok (.aload_n 0, 1) := by decide +kernel
theorem dX4_dateAt_15 : decode cX4_dateAt 15 = .ok (.iload_n 3, 1) := by decide +kernel
theorem dX4_dateAt_16 : decode cX4_dateAt 16 = .ok (.invokevirtual 242, 3) := by decide +kernel
theorem dX4_dateAt_19 : decode cX4_dateAt 19 = .ok (.ifCond .eq 27, 3) := by decide +kernel
theorem dX4_dateAt_22 : decode cX4_dateAt 22 = .ok (.iload_n 2, 1) := by decide +kernel
theorem dX4_dateAt_23 : decode cX4_dateAt 23 = .ok (.iload_n 1, 1) := by decide +kernel
theorem dX4_dateAt_24 : decode cX4_dateAt 24 = .ok (.if_icmp .ne 19, 3) := by decide +kernel
theorem dX4_dateAt_27 : decode cX4_dateAt 27 = .ok (.aload_n 0, 1) := by decide +kernel
theorem dX4_dateAt_28 : decode cX4_dateAt 28 = .ok (.aload_n 0, 1) := by decide +kernel
theorem dX4_dateAt_29 : decode cX4_dateAt 29 = .ok (.getfield 13, 3) := by decide +kernel
theorem dX4_dateAt_32 : decode cX4_dateAt 32 = .ok (.iload_n 3, 1) := by decide +kernel
theorem dX4_dateAt_33 : decode cX4_dateAt 33 = .ok (.invokestatic 50, 3) := by decide +kernel
theorem dX4_dateAt_36 : decode cX4_dateAt 36 = .ok (.iconst 4, 1) := by decide +kernel
theorem dX4_dateAt_37 : decode cX4_dateAt 37 = .ok (.iadd, 1) := by decide +kernel
theorem dX4_dateAt_38 : decode cX4_dateAt 38 = .ok (.iaload, 1) := by decide +kernel
theorem dX4_dateAt_39 : decode cX4_dateAt 39 = .ok (.invokevirtual 199, 3) := by decide +kernel
theorem dX4_dateAt_42 : decode cX4_dateAt 42 = .ok (.ireturn, 1) := by decide +kernel
theorem dX4_dateAt_43 : decode cX4_dateAt 43 = .ok (.iinc 2 1, 3) := by decide +kernel
theorem dX4_dateAt_46 : decode cX4_dateAt 46 = .ok (.iinc 3 1, 3) := by decide +kernel
theorem dX4_dateAt_49 : decode cX4_dateAt 49 = .ok (.goto (-45), 3) := by decide +kernel
theorem dX4_dateAt_52 : decode cX4_dateAt 52 = .ok (.aload_n 0, 1) := by decide +kernel
theorem dX4_dateAt_53 : decode cX4_dateAt 53 = .ok (.iconst 1, 1) := by decide +kernel
theorem dX4_dateAt_54 : decode cX4_dateAt 54 = .ok (.invokevirtual 193, 3) := by decide +kernel
theorem dX4_dateAt_57 : decode cX4_dateAt 57 = .ok (.ireturn, 1) := by decide +kernel
theorem dX4_inMonth_0 : decode cX4_inMonth 0 = .ok (.iconst 0, 1) := by decide +kernel
theorem dX4_inMonth_1 : decode cX4_inMonth 1 = .ok (.istore_n 2, 1) := by decide +kernel
theorem dX4_inMonth_2 : decode cX4_inMonth 2 = .ok (.iconst 0, 1) := by decide +kernel
theorem dX4_inMonth_3 : decode cX4_inMonth 3 = .ok (.istore_n 3, 1) := by decide +kernel
theorem dX4_inMonth_4 : decode cX4_inMonth 4 = .ok (.iload_n 3, 1) := by decide +kernel
theorem dX4_inMonth_5 : decode cX4_inMonth 5 = .ok (.aload_n 0, 1) := by decide +kernel
theorem dX4_inMonth_6 : decode cX4_inMonth 6 = .ok (.getfield 13, 3) := by decide +kernel
theorem dX4_inMonth_9 : decode cX4_inMonth 9 = .ok (.iconst 5, 1) := by decide +kernel
theorem dX4_inMonth_10 : decode cX4_inMonth 10 = .ok (.iaload, 1) := by decide +kernel
theorem dX4_inMonth_11 : decode cX4_inMonth 11 = .ok (.if_icmp .ge 45, 3) := by decide +kernel
theorem dX4_inMonth_14 : decode cX4_inMonth 14 = .ok (.iload_n 2, 1) := by decide +kernel
theorem dX4_inMonth_15 : decode cX4_inMonth 15 = .ok (.aload_n 0, 1) := by decide +kernel
theorem dX4_inMonth_16 : decode cX4_inMonth 16 = .ok (.iload_n 3, 1) := by decide +kernel
theorem dX4_inMonth_17 : decode cX4_inMonth 17 = .ok (.invokevirtual 233, 3) := by decide +kernel
theorem dX4_inMonth_20 : decode cX4_inMonth 20 = .ok (.ifCond .eq 27, 3) := by decide +kernel
theorem dX4_inMonth_23 : decode cX4_inMonth 23 = .ok (.aload_n 0, 1) := by decide +kernel
theorem dX4_inMonth_24 : decode cX4_inMonth 24 = .ok (.getfield 13, 3) := by decide +kernel
theorem dX4_inMonth_27 : decode cX4_inMonth 27 = .ok (.iload_n 3, 1) := by decide +kernel
theorem dX4_inMonth_28 : decode cX4_inMonth 28 = .ok (.invokestatic 50, 3) := by decide +kernel
theorem dX4_inMonth_31 : decode cX4_inMonth 31 = .ok (.iconst 4, 1) := by decide +kernel
theorem dX4_inMonth_32 : decode cX4_inMonth 32 = .ok (.iadd, 1) := by decide +kernel
theorem dX4_inMonth_33 : decode cX4_inMonth 33 = .ok (.iaload, 1) := by decide +kernel
theorem dX4_inMonth_34 : decode cX4_inMonth 34 = .ok (.bipush 30, 2) := by decide +kernel
theorem dX4_inMonth_36 : decode cX4_inMonth 36 = .ok (.idiv, 1) := by decide +kernel
theorem dX4_inMonth_37 : decode cX4_inMonth 37 = .ok (.iconst 1, 1) := by decide +kernel
theorem dX4_inMonth_38 : decode cX4_inMonth 38 = .ok (.iadd, 1) := by decide +kernel
theorem dX4_inMonth_39 : decode cX4_inMonth 39 = .ok (.iload_n 1, 1) := by decide +kernel
theorem dX4_inMonth_40 : decode cX4_inMonth 40 = .ok (.if_icmp .ne 7, 3) := by decide +kernel
theorem dX4_inMonth_43 : decode cX4_inMonth 43 = .ok (.iconst 1, 1) := by decide +kernel
theorem dX4_inMonth_44 : decode cX4_inMonth 44 = .ok (.goto 4, 3) := by decide +kernel
theorem dX4_inMonth_47 : decode cX4_inMonth 47 = .ok (.iconst 0, 1) := by decide +kernel
theorem dX4_inMonth_48 : decode cX4_inMonth 48 = .ok (.iadd, 1) := by decide +kernel
theorem dX4_inMonth_49 : decode cX4_inMonth 49 = .ok (.istore_n 2, 1) := by decide +kernel
theorem dX4_inMonth_50 : decode cX4_inMonth 50 = .ok (.iinc 3 1, 3) := by decide +kernel
theorem dX4_inMonth_53 : decode cX4_inMonth 53 = .ok (.goto (-49), 3) := by decide +kernel
theorem dX4_inMonth_56 : decode cX4_inMonth 56 = .ok (.iload_n 2, 1) := by decide +kernel
theorem dX4_inMonth_57 : decode cX4_inMonth 57 = .ok (.ireturn, 1) := by decide +kernel
theorem dX4_busiestMonth_0 : decode cX4_busiestMonth 0 = .ok (.iconst (-1), 1) := by decide +kernel
theorem dX4_busiestMonth_1 : decode cX4_busiestMonth 1 = .ok (.istore_n 1, 1) := by decide +kernel
theorem dX4_busiestMonth_2 : decode cX4_busiestMonth 2 = .ok (.iconst 0, 1) := by decide +kernel
theorem dX4_busiestMonth_3 : decode cX4_busiestMonth 3 = .ok (.istore_n 2, 1) := by decide +kernel
theorem dX4_busiestMonth_4 : decode cX4_busiestMonth 4 = .ok (.iconst 1, 1) := by decide +kernel
theorem dX4_busiestMonth_5 : decode cX4_busiestMonth 5 = .ok (.istore_n 3, 1) := by decide +kernel
theorem dX4_busiestMonth_6 : decode cX4_busiestMonth 6 = .ok (.iload_n 3, 1) := by decide +kernel
theorem dX4_busiestMonth_7 : decode cX4_busiestMonth 7 = .ok (.bipush 12, 2) := by decide +kernel
theorem dX4_busiestMonth_9 : decode cX4_busiestMonth 9 = .ok (.if_icmp .gt 26, 3) := by decide +kernel
theorem dX4_busiestMonth_12 : decode cX4_busiestMonth 12 = .ok (.aload_n 0, 1) := by decide +kernel
theorem dX4_busiestMonth_13 : decode cX4_busiestMonth 13 = .ok (.iload_n 3, 1) := by decide +kernel
theorem dX4_busiestMonth_14 : decode cX4_busiestMonth 14 = .ok (.invokevirtual 245, 3) := by decide +kernel
theorem dX4_busiestMonth_17 : decode cX4_busiestMonth 17 = .ok (.iload_n 2, 1) := by decide +kernel
theorem dX4_busiestMonth_18 : decode cX4_busiestMonth 18 = .ok (.if_icmp .le 11, 3) := by decide +kernel
theorem dX4_busiestMonth_21 : decode cX4_busiestMonth 21 = .ok (.iload_n 3, 1) := by decide +kernel
theorem dX4_busiestMonth_22 : decode cX4_busiestMonth 22 = .ok (.istore_n 1, 1) := by decide +kernel
theorem dX4_busiestMonth_23 : decode cX4_busiestMonth 23 = .ok (.aload_n 0, 1) := by decide +kernel
theorem dX4_busiestMonth_24 : decode cX4_busiestMonth 24 = .ok (.iload_n 3, 1) := by decide +kernel
theorem dX4_busiestMonth_25 : decode cX4_busiestMonth 25 = .ok (.invokevirtual 245, 3) := by decide +kernel
theorem dX4_busiestMonth_28 : decode cX4_busiestMonth 28 = .ok (.istore_n 2, 1) := by decide +kernel
theorem dX4_busiestMonth_29 : decode cX4_busiestMonth 29 = .ok (.iinc 3 1, 3) := by decide +kernel
theorem dX4_busiestMonth_32 : decode cX4_busiestMonth 32 = .ok (.goto (-26), 3) := by decide +kernel
theorem dX4_busiestMonth_35 : decode cX4_busiestMonth 35 = .ok (.aload_n 0, 1) := by decide +kernel
theorem dX4_busiestMonth_36 : decode cX4_busiestMonth 36 = .ok (.iload_n 1, 1) := by decide +kernel
theorem dX4_busiestMonth_37 : decode cX4_busiestMonth 37 = .ok (.invokevirtual 199, 3) := by decide +kernel
theorem dX4_busiestMonth_40 : decode cX4_busiestMonth 40 = .ok (.ireturn, 1) := by decide +kernel
theorem dX4_obstacle_0 : decode cX4_obstacle 0 = .ok (.aload_n 0, 1) := by decide +kernel
theorem dX4_obstacle_1 : decode cX4_obstacle 1 = .ok (.iload_n 1, 1) := by decide +kernel
theorem dX4_obstacle_2 : decode cX4_obstacle 2 = .ok (.invokevirtual 227, 3) := by decide +kernel
theorem dX4_obstacle_5 : decode cX4_obstacle 5 = .ok (.ifCond .eq 11, 3) := by decide +kernel
theorem dX4_obstacle_8 : decode cX4_obstacle 8 = .ok (.aload_n 0, 1) := by decide +kernel
theorem dX4_obstacle_9 : decode cX4_obstacle 9 = .ok (.iload_n 2, 1) := by decide +kernel
theorem dX4_obstacle_10 : decode cX4_obstacle 10 = .ok (.invokevirtual 217, 3) := by decide +kernel
theorem dX4_obstacle_13 : decode cX4_obstacle 13 = .ok (.ifCond .ne 9, 3) := by decide +kernel
theorem dX4_obstacle_16 : decode cX4_obstacle 16 = .ok (.aload_n 0, 1) := by decide +kernel
theorem dX4_obstacle_17 : decode cX4_obstacle 17 = .ok (.iconst 1, 1) := by decide +kernel
theorem dX4_obstacle_18 : decode cX4_obstacle 18 = .ok (.invokevirtual 193, 3) := by decide +kernel
theorem dX4_obstacle_21 : decode cX4_obstacle 21 = .ok (.ireturn, 1) := by decide +kernel
theorem dX4_obstacle_22 : decode cX4_obstacle 22 = .ok (.iload_n 3, 1) := by decide +kernel
theorem dX4_obstacle_23 : decode cX4_obstacle 23 = .ok (.iload 4, 2) := by decide +kernel
theorem dX4_obstacle_25 : decode cX4_obstacle 25 = .ok (.invokestatic 220, 3) := by decide +kernel
theorem dX4_obstacle_28 : decode cX4_obstacle 28 = .ok (.ifCond .eq 22, 3) := by decide +kernel
theorem dX4_obstacle_31 : decode cX4_obstacle 31 = .ok (.aload_n 0, 1) := by decide +kernel
theorem dX4_obstacle_32 : decode cX4_obstacle 32 = .ok (.aload_n 0, 1) := by decide +kernel
theorem dX4_obstacle_33 : decode cX4_obstacle 33 = .ok (.iload_n 1, 1) := by decide +kernel
theorem dX4_obstacle_34 : decode cX4_obstacle 34 = .ok (.iload_n 2, 1) := by decide +kernel
theorem dX4_obstacle_35 : decode cX4_obstacle 35 = .ok (.iload_n 3, 1) := by decide +kernel
theorem dX4_obstacle_36 : decode cX4_obstacle 36 = .ok (.iload 4, 2) := by decide +kernel
theorem dX4_obstacle_38 : decode cX4_obstacle 38 = .ok (.invokestatic 160, 3) := by decide +kernel
theorem dX4_obstacle_41 : decode cX4_obstacle 41 = .ok (.invokevirtual 86, 3) := by decide +kernel
theorem dX4_obstacle_44 : decode cX4_obstacle 44 = .ok (.invokevirtual 199, 3) := by decide +kernel
theorem dX4_obstacle_47 : decode cX4_obstacle 47 = .ok (.goto 8, 3) := by decide +kernel
theorem dX4_obstacle_50 : decode cX4_obstacle 50 = .ok (.aload_n 0, 1) := by decide +kernel
theorem dX4_obstacle_51 : decode cX4_obstacle 51 = .ok (.iconst 2, 1) := by decide +kernel
theorem dX4_obstacle_52 : decode cX4_obstacle 52 = .ok (.invokevirtual 193, 3) := by decide +kernel
theorem dX4_obstacle_55 : decode cX4_obstacle 55 = .ok (.ireturn, 1) := by decide +kernel
theorem dX4_freeGarden_0 : decode cX4_freeGarden 0 = .ok (.aload_n 0, 1) := by decide +kernel
theorem dX4_freeGarden_1 : decode cX4_freeGarden 1 = .ok (.iload_n 1, 1) := by decide +kernel
theorem dX4_freeGarden_2 : decode cX4_freeGarden 2 = .ok (.invokevirtual 227, 3) := by decide +kernel
theorem dX4_freeGarden_5 : decode cX4_freeGarden 5 = .ok (.ifCond .ne 9, 3) := by decide +kernel
theorem dX4_freeGarden_8 : decode cX4_freeGarden 8 = .ok (.aload_n 0, 1) := by decide +kernel
theorem dX4_freeGarden_9 : decode cX4_freeGarden 9 = .ok (.iconst 1, 1) := by decide +kernel
theorem dX4_freeGarden_10 : decode cX4_freeGarden 10 = .ok (.invokevirtual 193, 3) := by decide +kernel
theorem dX4_freeGarden_13 : decode cX4_freeGarden 13 = .ok (.ireturn, 1) := by decide +kernel
theorem dX4_freeGarden_14 : decode cX4_freeGarden 14 = .ok (.iload_n 2, 1) := by decide +kernel
theorem dX4_freeGarden_15 : decode cX4_freeGarden 15 = .ok (.iload_n 3, 1) := by decide +kernel
theorem dX4_freeGarden_16 : decode cX4_freeGarden 16 = .ok (.invokestatic 220, 3) := by decide +kernel
theorem dX4_freeGarden_19 : decode cX4_freeGarden 19 = .ok (.ifCond .ne 9, 3) := by decide +kernel
theorem dX4_freeGarden_22 : decode cX4_freeGarden 22 = .ok (.aload_n 0, 1) := by decide +kernel
theorem dX4_freeGarden_23 : decode cX4_freeGarden 23 = .ok (.iconst 2, 1) := by decide +kernel
theorem dX4_freeGarden_24 : decode cX4_freeGarden 24 = .ok (.invokevirtual 193, 3) := by decide +kernel
theorem dX4_freeGarden_27 : decode cX4_freeGarden 27 = .ok (.ireturn, 1) := by decide +kernel
theorem dX4_freeGarden_28 : decode cX4_freeGarden 28 = .ok (.iconst 0, 1) := by decide +kernel
theorem dX4_freeGarden_29 : decode cX4_freeGarden 29 = .ok (.istore 4, 2) := by decide +kernel
theorem dX4_freeGarden_31 : decode cX4_freeGarden 31 = .ok (.iload 4, 2) := by decide +kernel
theorem dX4_freeGarden_33 : decode cX4_freeGarden 33 = .ok (.aload_n 0, 1) := by decide +kernel
theorem dX4_freeGarden_34 : decode cX4_freeGarden 34 = .ok (.getfield 13, 3) := by decide +kernel
theorem dX4_freeGarden_37 : decode cX4_freeGarden 37 = .ok (.iconst 4, 1) := by decide +kernel
theorem dX4_freeGarden_38 : decode cX4_freeGarden 38 = .ok (.iaload, 1) := by decide +kernel
theorem dX4_freeGarden_39 : decode cX4_freeGarden 39 = .ok (.if_icmp .ge 24, 3) := by decide +kernel
theorem dX4_freeGarden_42 : decode cX4_freeGarden 42 = .ok (.aload_n 0, 1) := by decide +kernel
theorem dX4_freeGarden_43 : decode cX4_freeGarden 43 = .ok (.iload_n 1, 1) := by decide +kernel
theorem dX4_freeGarden_44 : decode cX4_freeGarden 44 = .ok (.iload 4, 2) := by decide +kernel
theorem dX4_freeGarden_46 : decode cX4_freeGarden 46 = .ok (.iload_n 2, 1) := by decide +kernel
theorem dX4_freeGarden_47 : decode cX4_freeGarden 47 = .ok (.iload_n 3, 1) := by decide +kernel
theorem dX4_freeGarden_48 : decode cX4_freeGarden 48 = .ok (.invokestatic 160, 3) := by decide +kernel
theorem dX4_freeGarden_51 : decode cX4_freeGarden 51 = .ok (.invokevirtual 86, 3) := by decide +kernel
theorem dX4_freeGarden_54 : decode cX4_freeGarden 54 = .ok (.ifCond .eq 9, 3) := by decide +kernel
theorem dX4_freeGarden_57 : decode cX4_freeGarden 57 = .ok (.iinc 4 1, 3) := by decide +kernel
theorem dX4_freeGarden_60 : decode cX4_freeGarden 60 = .ok (.goto (-29), 3) := by decide +kernel
theorem dX4_freeGarden_63 : decode cX4_freeGarden 63 = .ok (.aload_n 0, 1) := by decide +kernel
theorem dX4_freeGarden_64 : decode cX4_freeGarden 64 = .ok (.iload 4, 2) := by decide +kernel
theorem dX4_freeGarden_66 : decode cX4_freeGarden 66 = .ok (.aload_n 0, 1) := by decide +kernel
theorem dX4_freeGarden_67 : decode cX4_freeGarden 67 = .ok (.getfield 13, 3) := by decide +kernel
theorem dX4_freeGarden_70 : decode cX4_freeGarden 70 = .ok (.iconst 4, 1) := by decide +kernel
theorem dX4_freeGarden_71 : decode cX4_freeGarden 71 = .ok (.iaload, 1) := by decide +kernel
theorem dX4_freeGarden_72 : decode cX4_freeGarden 72 = .ok (.if_icmp .ge 8, 3) := by decide +kernel
theorem dX4_freeGarden_75 : decode cX4_freeGarden 75 = .ok (.iload 4, 2) := by decide +kernel
theorem dX4_freeGarden_77 : decode cX4_freeGarden 77 = .ok (.goto 4, 3) := by decide +kernel
theorem dX4_freeGarden_80 : decode cX4_freeGarden 80 = .ok (.iconst (-1), 1) := by decide +kernel
theorem dX4_freeGarden_81 : decode cX4_freeGarden 81 = .ok (.invokevirtual 199, 3) := by decide +kernel
theorem dX4_freeGarden_84 : decode cX4_freeGarden 84 = .ok (.ireturn, 1) := by decide +kernel
theorem dX4_drawsNeeded_0 : decode cX4_drawsNeeded 0 = .ok (.aload_n 0, 1) := by decide +kernel
theorem dX4_drawsNeeded_1 : decode cX4_drawsNeeded 1 = .ok (.iload_n 1, 1) := by decide +kernel
theorem dX4_drawsNeeded_2 : decode cX4_drawsNeeded 2 = .ok (.invokevirtual 227, 3) := by decide +kernel
theorem dX4_drawsNeeded_5 : decode cX4_drawsNeeded 5 = .ok (.ifCond .eq 15, 3) := by decide +kernel
theorem dX4_drawsNeeded_8 : decode cX4_drawsNeeded 8 = .ok (.aload_n 0, 1) := by decide +kernel
theorem dX4_drawsNeeded_9 : decode cX4_drawsNeeded 9 = .ok (.aload_n 0, 1) := by decide +kernel
theorem dX4_drawsNeeded_10 : decode cX4_drawsNeeded 10 = .ok (.iload_n 1, 1) := by decide +kernel
theorem dX4_drawsNeeded_11 : decode cX4_drawsNeeded 11 = .ok (.invokevirtual 54, 3) := by decide +kernel
theorem dX4_drawsNeeded_14 : decode cX4_drawsNeeded 14 = .ok (.invokevirtual 199, 3) := by decide +kernel
theorem dX4_drawsNeeded_17 : decode cX4_drawsNeeded 17 = .ok (.goto 8, 3) := by decide +kernel
theorem dX4_drawsNeeded_20 : decode cX4_drawsNeeded 20 = .ok (.aload_n 0, 1) := by decide +kernel
theorem dX4_drawsNeeded_21 : decode cX4_drawsNeeded 21 = .ok (.iconst 1, 1) := by decide +kernel
theorem dX4_drawsNeeded_22 : decode cX4_drawsNeeded 22 = .ok (.invokevirtual 193, 3) := by decide +kernel
theorem dX4_drawsNeeded_25 : decode cX4_drawsNeeded 25 = .ok (.ireturn, 1) := by decide +kernel
theorem dX4_candlesAfter_0 : decode cX4_candlesAfter 0 = .ok (.iload_n 1, 1) := by decide +kernel
theorem dX4_candlesAfter_1 : decode cX4_candlesAfter 1 = .ok (.iconst 0, 1) := by decide +kernel
theorem dX4_candlesAfter_2 : decode cX4_candlesAfter 2 = .ok (.sipush 720, 3) := by decide +kernel
theorem dX4_candlesAfter_5 : decode cX4_candlesAfter 5 = .ok (.invokestatic 67, 3) := by decide +kernel
theorem dX4_candlesAfter_8 : decode cX4_candlesAfter 8 = .ok (.ifCond .ne 9, 3) := by decide +kernel
theorem dX4_candlesAfter_11 : decode cX4_candlesAfter 11 = .ok (.aload_n 0, 1) := by decide +kernel
theorem dX4_candlesAfter_12 : decode cX4_candlesAfter 12 = .ok (.iconst 1, 1) := by decide +kernel
theorem dX4_candlesAfter_13 : decode cX4_candlesAfter 13 = .ok (.invokevirtual 193, 3) := by decide +kernel
theorem dX4_candlesAfter_16 : decode cX4_candlesAfter 16 = .ok (.ireturn, 1) := by decide +kernel
theorem dX4_candlesAfter_17 : decode cX4_candlesAfter 17 = .ok (.aload_n 0, 1) := by decide +kernel
theorem dX4_candlesAfter_18 : decode cX4_candlesAfter 18 = .ok (.invokevirtual 202, 3) := by decide +kernel
theorem dX4_candlesAfter_21 : decode cX4_candlesAfter 21 = .ok (.aload_n 0, 1) := by decide +kernel
theorem dX4_candlesAfter_22 : decode cX4_candlesAfter 22 = .ok (.iload_n 1, 1) := by decide +kernel
theorem dX4_candlesAfter_23 : decode cX4_candlesAfter 23 = .ok (.invokevirtual 61, 3) := by decide +kernel
theorem dX4_candlesAfter_26 : decode cX4_candlesAfter 26 = .ok (.istore_n 2, 1) := by decide +kernel
theorem dX4_candlesAfter_27 : decode cX4_candlesAfter 27 = .ok (.aload_n 0, 1) := by decide +kernel
theorem dX4_candlesAfter_28 : decode cX4_candlesAfter 28 = .ok (.getfield 13, 3) := by decide +kernel
theorem dX4_candlesAfter_31 : decode cX4_candlesAfter 31 = .ok (.iconst 3, 1) := by decide +kernel
theorem dX4_candlesAfter_32 : decode cX4_candlesAfter 32 = .ok (.iaload, 1) := by decide +kernel
theorem dX4_candlesAfter_33 : decode cX4_candlesAfter 33 = .ok (.istore_n 3, 1) := by decide +kernel
theorem dX4_candlesAfter_34 : decode cX4_candlesAfter 34 = .ok (.aload_n 0, 1) := by decide +kernel
theorem dX4_candlesAfter_35 : decode cX4_candlesAfter 35 = .ok (.invokevirtual 211, 3) := by decide +kernel
theorem dX4_candlesAfter_38 : decode cX4_candlesAfter 38 = .ok (.aload_n 0, 1) := by decide +kernel
theorem dX4_candlesAfter_39 : decode cX4_candlesAfter 39 = .ok (.iload_n 3, 1) := by decide +kernel
theorem dX4_candlesAfter_40 : decode cX4_candlesAfter 40 = .ok (.invokevirtual 199, 3) := by decide +kernel
theorem dX4_candlesAfter_43 : decode cX4_candlesAfter 43 = .ok (.ireturn, 1) := by decide +kernel
theorem dX4_wishesAfter_0 : decode cX4_wishesAfter 0 = .ok (.aload_n 0, 1) := by decide +kernel
theorem dX4_wishesAfter_1 : decode cX4_wishesAfter 1 = .ok (.iload_n 1, 1) := by decide +kernel
theorem dX4_wishesAfter_2 : decode cX4_wishesAfter 2 = .ok (.invokevirtual 227, 3) := by decide +kernel
theorem dX4_wishesAfter_5 : decode cX4_wishesAfter 5 = .ok (.ifCond .ne 9, 3) := by decide +kernel
theorem dX4_wishesAfter_8 : decode cX4_wishesAfter 8 = .ok (.aload_n 0, 1) := by decide +kernel
theorem dX4_wishesAfter_9 : decode cX4_wishesAfter 9 = .ok (.iconst 1, 1) := by decide +kernel
theorem dX4_wishesAfter_10 : decode cX4_wishesAfter 10 = .ok (.invokevirtual 193, 3) := by decide +kernel
theorem dX4_wishesAfter_13 : decode cX4_wishesAfter 13 = .ok (.ireturn, 1) := by decide +kernel
theorem dX4_wishesAfter_14 : decode cX4_wishesAfter 14 = .ok (.iload_n 2, 1) := by decide +kernel
theorem dX4_wishesAfter_15 : decode cX4_wishesAfter 15 = .ok (.iconst 0, 1) := by decide +kernel
theorem dX4_wishesAfter_16 : decode cX4_wishesAfter 16 = .ok (.sipush 720, 3) := by decide +kernel
theorem dX4_wishesAfter_19 : decode cX4_wishesAfter 19 = .ok (.invokestatic 67, 3) := by decide +kernel
theorem dX4_wishesAfter_22 : decode cX4_wishesAfter 22 = .ok (.ifCond .ne 9, 3) := by decide +kernel
theorem dX4_wishesAfter_25 : decode cX4_wishesAfter 25 = .ok (.aload_n 0, 1) := by decide +kernel
theorem dX4_wishesAfter_26 : decode cX4_wishesAfter 26 = .ok (.iconst 2, 1) := by decide +kernel
theorem dX4_wishesAfter_27 : decode cX4_wishesAfter 27 = .ok (.invokevirtual 193, 3) := by decide +kernel
theorem dX4_wishesAfter_30 : decode cX4_wishesAfter 30 = .ok (.ireturn, 1) := by decide +kernel
theorem dX4_wishesAfter_31 : decode cX4_wishesAfter 31 = .ok (.aload_n 0, 1) := by decide +kernel
theorem dX4_wishesAfter_32 : decode cX4_wishesAfter 32 = .ok (.invokevirtual 202, 3) := by decide +kernel
theorem dX4_wishesAfter_35 : decode cX4_wishesAfter 35 = .ok (.aload_n 0, 1) := by decide +kernel
theorem dX4_wishesAfter_36 : decode cX4_wishesAfter 36 = .ok (.iload_n 2, 1) := by decide +kernel
theorem dX4_wishesAfter_37 : decode cX4_wishesAfter 37 = .ok (.invokevirtual 61, 3) := by decide +kernel
theorem dX4_wishesAfter_40 : decode cX4_wishesAfter 40 = .ok (.istore_n 3, 1) := by decide +kernel
theorem dX4_wishesAfter_41 : decode cX4_wishesAfter 41 = .ok (.aload_n 0, 1) := by decide +kernel
theorem dX4_wishesAfter_42 : decode cX4_wishesAfter 42 = .ok (.getfield 13, 3) := by decide +kernel
theorem dX4_wishesAfter_45 : decode cX4_wishesAfter 45 = .ok (.iload_n 1, 1) := by decide +kernel
theorem dX4_wishesAfter_46 : decode cX4_wishesAfter 46 = .ok (.invokestatic 50, 3) := by decide +kernel
theorem dX4_wishesAfter_49 : decode cX4_wishesAfter 49 = .ok (.bipush 6, 2) := by decide +kernel
theorem dX4_wishesAfter_51 : decode cX4_wishesAfter 51 = .ok (.iadd, 1) := by decide +kernel
theorem dX4_wishesAfter_52 : decode cX4_wishesAfter 52 = .ok (.iaload, 1) := by decide +kernel
theorem dX4_wishesAfter_53 : decode cX4_wishesAfter 53 = .ok (.istore 4, 2) := by decide +kernel
theorem dX4_wishesAfter_55 : decode cX4_wishesAfter 55 = .ok (.aload_n 0, 1) := by decide +kernel
theorem dX4_wishesAfter_56 : decode cX4_wishesAfter 56 = .ok (.invokevirtual 211, 3) := by decide +kernel
theorem dX4_wishesAfter_59 : decode cX4_wishesAfter 59 = .ok (.aload_n 0, 1) := by decide +kernel
theorem dX4_wishesAfter_60 : decode cX4_wishesAfter 60 = .ok (.iload 4, 2) := by decide +kernel
theorem dX4_wishesAfter_62 : decode cX4_wishesAfter 62 = .ok (.invokevirtual 199, 3) := by decide +kernel
theorem dX4_wishesAfter_65 : decode cX4_wishesAfter 65 = .ok (.ireturn, 1) := by decide +kernel
theorem dX4_heldParties_0 : decode cX4_heldParties 0 = .ok (.aload_n 0, 1) := by decide +kernel
theorem dX4_heldParties_1 : decode cX4_heldParties 1 = .ok (.aload_n 0, 1) := by decide +kernel
theorem dX4_heldParties_2 : decode cX4_heldParties 2 = .ok (.getfield 13, 3) := by decide +kernel
theorem dX4_heldParties_5 : decode cX4_heldParties 5 = .ok (.bipush 9, 2) := by decide +kernel
theorem dX4_heldParties_7 : decode cX4_heldParties 7 = .ok (.iaload, 1) := by decide +kernel
theorem dX4_heldParties_8 : decode cX4_heldParties 8 = .ok (.invokevirtual 199, 3) := by decide +kernel
theorem dX4_heldParties_11 : decode cX4_heldParties 11 = .ok (.ireturn, 1) := by decide +kernel
theorem dX4_failedParties_0 : decode cX4_failedParties 0 = .ok (.aload_n 0, 1) := by decide +kernel
theorem dX4_failedParties_1 : decode cX4_failedParties 1 = .ok (.aload_n 0, 1) := by decide +kernel
theorem dX4_failedParties_2 : decode cX4_failedParties 2 = .ok (.getfield 13, 3) := by decide +kernel
theorem dX4_failedParties_5 : decode cX4_failedParties 5 = .ok (.bipush 10, 2) := by decide +kernel
theorem dX4_failedParties_7 : decode cX4_failedParties 7 = .ok (.iaload, 1) := by decide +kernel
theorem dX4_failedParties_8 : decode cX4_failedParties 8 = .ok (.invokevirtual 199, 3) := by decide +kernel
theorem dX4_failedParties_11 : decode cX4_failedParties 11 = .ok (.ireturn, 1) := by decide +kernel
theorem dX4_clashes_0 : decode cX4_clashes 0 = .ok (.iconst 0, 1) := by decide +kernel
theorem dX4_clashes_1 : decode cX4_clashes 1 = .ok (.istore_n 1, 1) := by decide +kernel
theorem dX4_clashes_2 : decode cX4_clashes 2 = .ok (.iconst 0, 1) := by decide +kernel
theorem dX4_clashes_3 : decode cX4_clashes 3 = .ok (.istore_n 2, 1) := by decide +kernel
theorem dX4_clashes_4 : decode cX4_clashes 4 = .ok (.iload_n 2, 1) := by decide +kernel
theorem dX4_clashes_5 : decode cX4_clashes 5 = .ok (.aload_n 0, 1) := by decide +kernel
theorem dX4_clashes_6 : decode cX4_clashes 6 = .ok (.getfield 13, 3) := by decide +kernel
theorem dX4_clashes_9 : decode cX4_clashes 9 = .ok (.iconst 5, 1) := by decide +kernel
theorem dX4_clashes_10 : decode cX4_clashes 10 = .ok (.iaload, 1) := by decide +kernel
theorem dX4_clashes_11 : decode cX4_clashes 11 = .ok (.if_icmp .ge 100, 3) := by decide +kernel
theorem dX4_clashes_14 : decode cX4_clashes 14 = .ok (.iconst 0, 1) := by decide +kernel
theorem dX4_clashes_15 : decode cX4_clashes 15 = .ok (.istore_n 3, 1) := by decide +kernel
theorem dX4_clashes_16 : decode cX4_clashes 16 = .ok (.iload_n 3, 1) := by decide +kernel
theorem dX4_clashes_17 : decode cX4_clashes 17 = .ok (.iload_n 2, 1) := by decide +kernel
theorem dX4_clashes_18 : decode cX4_clashes 18 = .ok (.if_icmp .ge 87, 3) := by decide +kernel
theorem dX4_clashes_21 : decode cX4_clashes 21 = .ok (.aload_n 0, 1) := by decide +kernel
theorem dX4_clashes_22 : decode cX4_clashes 22 = .ok (.getfield 13, 3) := by decide +kernel
theorem dX4_clashes_25 : decode cX4_clashes 25 = .ok (.iload_n 2, 1) := by decide +kernel
theorem dX4_clashes_26 : decode cX4_clashes 26 = .ok (.invokestatic 50, 3) := by decide +kernel
theorem dX4_clashes_29 : decode cX4_clashes 29 = .ok (.iconst 4, 1) := by decide +kernel
theorem dX4_clashes_30 : decode cX4_clashes 30 = .ok (.iadd, 1) := by decide +kernel
theorem dX4_clashes_31 : decode cX4_clashes 31 = .ok (.iaload, 1) := by decide +kernel
theorem dX4_clashes_32 : decode cX4_clashes 32 = .ok (.aload_n 0, 1) := by decide +kernel
theorem dX4_clashes_33 : decode cX4_clashes 33 = .ok (.getfield 13, 3) := by decide +kernel
theorem dX4_clashes_36 : decode cX4_clashes 36 = .ok (.iload_n 3, 1) := by decide +kernel
theorem dX4_clashes_37 : decode cX4_clashes 37 = .ok (.invokestatic 50, 3) := by decide +kernel
theorem dX4_clashes_40 : decode cX4_clashes 40 = .ok (.iconst 4, 1) := by decide +kernel
theorem dX4_clashes_41 : decode cX4_clashes 41 = .ok (.iadd, 1) := by decide +kernel
theorem dX4_clashes_42 : decode cX4_clashes 42 = .ok (.iaload, 1) := by decide +kernel
theorem dX4_clashes_43 : decode cX4_clashes 43 = .ok (.if_icmp .ne 32, 3) := by decide +kernel
theorem dX4_clashes_46 : decode cX4_clashes 46 = .ok (.aload_n 0, 1) := by decide +kernel
theorem dX4_clashes_47 : decode cX4_clashes 47 = .ok (.getfield 13, 3) := by decide +kernel
theorem dX4_clashes_50 : decode cX4_clashes 50 = .ok (.iload_n 2, 1) := by decide +kernel
theorem dX4_clashes_51 : decode cX4_clashes 51 = .ok (.invokestatic 50, 3) := by decide +kernel
theorem dX4_clashes_54 : decode cX4_clashes 54 = .ok (.iconst 3, 1) := by decide +kernel
theorem dX4_clashes_55 : decode cX4_clashes 55 = .ok (.iadd, 1) := by decide +kernel
theorem dX4_clashes_56 : decode cX4_clashes 56 = .ok (.iaload, 1) := by decide +kernel
theorem dX4_clashes_57 : decode cX4_clashes 57 = .ok (.aload_n 0, 1) := by decide +kernel
theorem dX4_clashes_58 : decode cX4_clashes 58 = .ok (.getfield 13, 3) := by decide +kernel
theorem dX4_clashes_61 : decode cX4_clashes 61 = .ok (.iload_n 3, 1) := by decide +kernel
theorem dX4_clashes_62 : decode cX4_clashes 62 = .ok (.invokestatic 50, 3) := by decide +kernel
theorem dX4_clashes_65 : decode cX4_clashes 65 = .ok (.iconst 3, 1) := by decide +kernel
theorem dX4_clashes_66 : decode cX4_clashes 66 = .ok (.iadd, 1) := by decide +kernel
theorem dX4_clashes_67 : decode cX4_clashes 67 = .ok (.iaload, 1) := by decide +kernel
theorem dX4_clashes_68 : decode cX4_clashes 68 = .ok (.if_icmp .ne 7, 3) := by decide +kernel
theorem dX4_clashes_71 : decode cX4_clashes 71 = .ok (.iconst 1, 1) := by decide +kernel
theorem dX4_clashes_72 : decode cX4_clashes 72 = .ok (.goto 4, 3) := by decide +kernel
theorem dX4_clashes_75 : decode cX4_clashes 75 = .ok (.iconst 0, 1) := by decide +kernel
theorem dX4_clashes_76 : decode cX4_clashes 76 = .ok (.istore 4, 2) := by decide +kernel
theorem dX4_clashes_78 : decode cX4_clashes 78 = .ok (.iload_n 1, 1) := by decide +kernel
theorem dX4_clashes_79 : decode cX4_clashes 79 = .ok (.aload_n 0, 1) := by decide +kernel
theorem dX4_clashes_80 : decode cX4_clashes 80 = .ok (.iload_n 2, 1) := by decide +kernel
theorem dX4_clashes_81 : decode cX4_clashes 81 = .ok (.invokevirtual 233, 3) := by decide +kernel
theorem dX4_clashes_84 : decode cX4_clashes 84 = .ok (.ifCond .eq 12, 3) := by decide +kernel
theorem dX4_clashes_87 : decode cX4_clashes 87 = .ok (.iload 4, 2) := by decide +kernel
theorem dX4_clashes_89 : decode cX4_clashes 89 = .ok (.ifCond .eq 7, 3) := by decide +kernel
theorem dX4_clashes_92 : decode cX4_clashes 92 = .ok (.iconst 1, 1) := by decide +kernel
theorem dX4_clashes_93 : decode cX4_clashes 93 = .ok (.goto 4, 3) := by decide +kernel
theorem dX4_clashes_96 : decode cX4_clashes 96 = .ok (.iconst 0, 1) := by decide +kernel
theorem dX4_clashes_97 : decode cX4_clashes 97 = .ok (.iadd, 1) := by decide +kernel
theorem dX4_clashes_98 : decode cX4_clashes 98 = .ok (.istore_n 1, 1) := by decide +kernel
theorem dX4_clashes_99 : decode cX4_clashes 99 = .ok (.iinc 3 1, 3) := by decide +kernel
theorem dX4_clashes_102 : decode cX4_clashes 102 = .ok (.goto (-86), 3) := by decide +kernel
theorem dX4_clashes_105 : decode cX4_clashes 105 = .ok (.iinc 2 1, 3) := by decide +kernel
theorem dX4_clashes_108 : decode cX4_clashes 108 = .ok (.goto (-104), 3) := by decide +kernel
theorem dX4_clashes_111 : decode cX4_clashes 111 = .ok (.aload_n 0, 1) := by decide +kernel
theorem dX4_clashes_112 : decode cX4_clashes 112 = .ok (.iload_n 1, 1) := by decide +kernel
theorem dX4_clashes_113 : decode cX4_clashes 113 = .ok (.invokevirtual 199, 3) := by decide +kernel
theorem dX4_clashes_116 : decode cX4_clashes 116 = .ok (.ireturn, 1) := by decide +kernel
theorem dX4_candleDifference_0 : decode cX4_candleDifference 0 = .ok (.aload_n 0, 1) := by decide +kernel
theorem dX4_candleDifference_1 : decode cX4_candleDifference 1 = .ok (.aload_n 0, 1) := by decide +kernel
theorem dX4_candleDifference_2 : decode cX4_candleDifference 2 = .ok (.getfield 13, 3) := by decide +kernel
theorem dX4_candleDifference_5 : decode cX4_candleDifference 5 = .ok (.iconst 3, 1) := by decide +kernel
theorem dX4_candleDifference_6 : decode cX4_candleDifference 6 = .ok (.iaload, 1) := by decide +kernel
theorem dX4_candleDifference_7 : decode cX4_candleDifference 7 = .ok (.aload_n 0, 1) := by decide +kernel
theorem dX4_candleDifference_8 : decode cX4_candleDifference 8 = .ok (.getfield 13, 3) := by decide +kernel
theorem dX4_candleDifference_11 : decode cX4_candleDifference 11 = .ok (.bipush 6, 2) := by decide +kernel
theorem dX4_candleDifference_13 : decode cX4_candleDifference 13 = .ok (.iaload, 1) := by decide +kernel
theorem dX4_candleDifference_14 : decode cX4_candleDifference 14 = .ok (.isub, 1) := by decide +kernel
theorem dX4_candleDifference_15 : decode cX4_candleDifference 15 = .ok (.aload_n 0, 1) := by decide +kernel
theorem dX4_candleDifference_16 : decode cX4_candleDifference 16 = .ok (.getfield 13, 3) := by decide +kernel
theorem dX4_candleDifference_19 : decode cX4_candleDifference 19 = .ok (.bipush 7, 2) := by decide +kernel
theorem dX4_candleDifference_21 : decode cX4_candleDifference 21 = .ok (.iaload, 1) := by decide +kernel
theorem dX4_candleDifference_22 : decode cX4_candleDifference 22 = .ok (.isub, 1) := by decide +kernel
theorem dX4_candleDifference_23 : decode cX4_candleDifference 23 = .ok (.aload_n 0, 1) := by decide +kernel
theorem dX4_candleDifference_24 : decode cX4_candleDifference 24 = .ok (.getfield 13, 3) := by decide +kernel
theorem dX4_candleDifference_27 : decode cX4_candleDifference 27 = .ok (.bipush 8, 2) := by decide +kernel
theorem dX4_candleDifference_29 : decode cX4_candleDifference 29 = .ok (.iaload, 1) := by decide +kernel
theorem dX4_candleDifference_30 : decode cX4_candleDifference 30 = .ok (.iadd, 1) := by decide +kernel
theorem dX4_candleDifference_31 : decode cX4_candleDifference 31 = .ok (.invokestatic 248, 3) := by decide +kernel
theorem dX4_candleDifference_34 : decode cX4_candleDifference 34 = .ok (.invokevirtual 199, 3) := by decide +kernel
theorem dX4_candleDifference_37 : decode cX4_candleDifference 37 = .ok (.ireturn, 1) := by decide +kernel
theorem dX4_sumOf_0 : decode cX4_sumOf 0 = .ok (.iconst 0, 1) := by decide +kernel
theorem dX4_sumOf_1 : decode cX4_sumOf 1 = .ok (.istore_n 2, 1) := by decide +kernel
theorem dX4_sumOf_2 : decode cX4_sumOf 2 = .ok (.iconst 0, 1) := by decide +kernel
theorem dX4_sumOf_3 : decode cX4_sumOf 3 = .ok (.istore_n 3, 1) := by decide +kernel
theorem dX4_sumOf_4 : decode cX4_sumOf 4 = .ok (.iload_n 3, 1) := by decide +kernel
theorem dX4_sumOf_5 : decode cX4_sumOf 5 = .ok (.aload_n 0, 1) := by decide +kernel
theorem dX4_sumOf_6 : decode cX4_sumOf 6 = .ok (.getfield 13, 3) := by decide +kernel
theorem dX4_sumOf_9 : decode cX4_sumOf 9 = .ok (.iconst 5, 1) := by decide +kernel
theorem dX4_sumOf_10 : decode cX4_sumOf 10 = .ok (.iaload, 1) := by decide +kernel
theorem dX4_sumOf_11 : decode cX4_sumOf 11 = .ok (.if_icmp .ge 23, 3) := by decide +kernel
theorem dX4_sumOf_14 : decode cX4_sumOf 14 = .ok (.iload_n 2, 1) := by decide +kernel
theorem dX4_sumOf_15 : decode cX4_sumOf 15 = .ok (.aload_n 0, 1) := by decide +kernel
theorem dX4_sumOf_16 : decode cX4_sumOf 16 = .ok (.getfield 13, 3) := by decide +kernel
theorem dX4_sumOf_19 : decode cX4_sumOf 19 = .ok (.iload_n 3, 1) := by decide +kernel
theorem dX4_sumOf_20 : decode cX4_sumOf 20 = .ok (.invokestatic 50, 3) := by decide +kernel
theorem dX4_sumOf_23 : decode cX4_sumOf 23 = .ok (.iload_n 1, 1) := by decide +kernel
theorem dX4_sumOf_24 : decode cX4_sumOf 24 = .ok (.iadd, 1) := by decide +kernel
theorem dX4_sumOf_25 : decode cX4_sumOf 25 = .ok (.iaload, 1) := by decide +kernel
theorem dX4_sumOf_26 : decode cX4_sumOf 26 = .ok (.iadd, 1) := by decide +kernel
theorem dX4_sumOf_27 : decode cX4_sumOf 27 = .ok (.istore_n 2, 1) := by decide +kernel
theorem dX4_sumOf_28 : decode cX4_sumOf 28 = .ok (.iinc 3 1, 3) := by decide +kernel
theorem dX4_sumOf_31 : decode cX4_sumOf 31 = .ok (.goto (-27), 3) := by decide +kernel
theorem dX4_sumOf_34 : decode cX4_sumOf 34 = .ok (.iload_n 2, 1) := by decide +kernel
theorem dX4_sumOf_35 : decode cX4_sumOf 35 = .ok (.ireturn, 1) := by decide +kernel
theorem dX4_meanAge_0 : decode cX4_meanAge 0 = .ok (.aload_n 0, 1) := by decide +kernel
theorem dX4_meanAge_1 : decode cX4_meanAge 1 = .ok (.iconst 0, 1) := by decide +kernel
theorem dX4_meanAge_2 : decode cX4_meanAge 2 = .ok (.putfield 64, 3) := by decide +kernel
theorem dX4_meanAge_5 : decode cX4_meanAge 5 = .ok (.aload_n 0, 1) := by decide +kernel
theorem dX4_meanAge_6 : decode cX4_meanAge 6 = .ok (.getfield 13, 3) := by decide +kernel
theorem dX4_meanAge_9 : decode cX4_meanAge 9 = .ok (.iconst 5, 1) := by decide +kernel
theorem dX4_meanAge_10 : decode cX4_meanAge 10 = .ok (.iaload, 1) := by decide +kernel
theorem dX4_meanAge_11 : decode cX4_meanAge 11 = .ok (.ifCond .ne 7, 3) := by decide +kernel
theorem dX4_meanAge_14 : decode cX4_meanAge 14 = .ok (.dconst 0, 1) := by decide +kernel
theorem dX4_meanAge_15 : decode cX4_meanAge 15 = .ok (.goto 17, 3) := by decide +kernel
theorem dX4_meanAge_18 : decode cX4_meanAge 18 = .ok (.aload_n 0, 1) := by decide +kernel
theorem dX4_meanAge_19 : decode cX4_meanAge 19 = .ok (.iconst 2, 1) := by decide +kernel
theorem dX4_meanAge_20 : decode cX4_meanAge 20 = .ok (.invokevirtual 251, 3) := by decide +kernel
theorem dX4_meanAge_23 : decode cX4_meanAge 23 = .ok (.i2d, 1) := by decide +kernel
theorem dX4_meanAge_24 : decode cX4_meanAge 24 = .ok (.aload_n 0, 1) := by decide +kernel
theorem dX4_meanAge_25 : decode cX4_meanAge 25 = .ok (.getfield 13, 3) := by decide +kernel
theorem dX4_meanAge_28 : decode cX4_meanAge 28 = .ok (.iconst 5, 1) := by decide +kernel
theorem dX4_meanAge_29 : decode cX4_meanAge 29 = .ok (.iaload, 1) := by decide +kernel
theorem dX4_meanAge_30 : decode cX4_meanAge 30 = .ok (.i2d, 1) := by decide +kernel
theorem dX4_meanAge_31 : decode cX4_meanAge 31 = .ok (.ddiv, 1) := by decide +kernel
theorem dX4_meanAge_32 : decode cX4_meanAge 32 = .ok (.dreturn, 1) := by decide +kernel
theorem dX4_wishShare_0 : decode cX4_wishShare 0 = .ok (.aload_n 0, 1) := by decide +kernel
theorem dX4_wishShare_1 : decode cX4_wishShare 1 = .ok (.iconst 0, 1) := by decide +kernel
theorem dX4_wishShare_2 : decode cX4_wishShare 2 = .ok (.putfield 64, 3) := by decide +kernel
theorem dX4_wishShare_5 : decode cX4_wishShare 5 = .ok (.aload_n 0, 1) := by decide +kernel
theorem dX4_wishShare_6 : decode cX4_wishShare 6 = .ok (.getfield 13, 3) := by decide +kernel
theorem dX4_wishShare_9 : decode cX4_wishShare 9 = .ok (.bipush 9, 2) := by decide +kernel
theorem dX4_wishShare_11 : decode cX4_wishShare 11 = .ok (.iaload, 1) := by decide +kernel
theorem dX4_wishShare_12 : decode cX4_wishShare 12 = .ok (.ifCond .ne 7, 3) := by decide +kernel
theorem dX4_wishShare_15 : decode cX4_wishShare 15 = .ok (.fconst 0, 1) := by decide +kernel
theorem dX4_wishShare_16 : decode cX4_wishShare 16 = .ok (.goto 19, 3) := by decide +kernel
theorem dX4_wishShare_19 : decode cX4_wishShare 19 = .ok (.aload_n 0, 1) := by decide +kernel
theorem dX4_wishShare_20 : decode cX4_wishShare 20 = .ok (.bipush 6, 2) := by decide +kernel
theorem dX4_wishShare_22 : decode cX4_wishShare 22 = .ok (.invokevirtual 251, 3) := by decide +kernel
theorem dX4_wishShare_25 : decode cX4_wishShare 25 = .ok (.i2f, 1) := by decide +kernel
theorem dX4_wishShare_26 : decode cX4_wishShare 26 = .ok (.aload_n 0, 1) := by decide +kernel
theorem dX4_wishShare_27 : decode cX4_wishShare 27 = .ok (.getfield 13, 3) := by decide +kernel
theorem dX4_wishShare_30 : decode cX4_wishShare 30 = .ok (.bipush 9, 2) := by decide +kernel
theorem dX4_wishShare_32 : decode cX4_wishShare 32 = .ok (.iaload, 1) := by decide +kernel
theorem dX4_wishShare_33 : decode cX4_wishShare 33 = .ok (.i2f, 1) := by decide +kernel
theorem dX4_wishShare_34 : decode cX4_wishShare 34 = .ok (.fdiv, 1) := by decide +kernel
theorem dX4_wishShare_35 : decode cX4_wishShare 35 = .ok (.freturn, 1) := by decide +kernel
theorem dX4_advance_0 : decode cX4_advance 0 = .ok (.iload_n 1, 1) := by decide +kernel
theorem dX4_advance_1 : decode cX4_advance 1 = .ok (.iconst 1, 1) := by decide +kernel
theorem dX4_advance_2 : decode cX4_advance 2 = .ok (.sipush 720, 3) := by decide +kernel
theorem dX4_advance_5 : decode cX4_advance 5 = .ok (.invokestatic 67, 3) := by decide +kernel
theorem dX4_advance_8 : decode cX4_advance 8 = .ok (.ifCond .ne 9, 3) := by decide +kernel
theorem dX4_advance_11 : decode cX4_advance 11 = .ok (.aload_n 0, 1) := by decide +kernel
theorem dX4_advance_12 : decode cX4_advance 12 = .ok (.iconst 1, 1) := by decide +kernel
theorem dX4_advance_13 : decode cX4_advance 13 = .ok (.invokevirtual 193, 3) := by decide +kernel
theorem dX4_advance_16 : decode cX4_advance 16 = .ok (.ireturn, 1) := by decide +kernel
theorem dX4_advance_17 : decode cX4_advance 17 = .ok (.aload_n 0, 1) := by decide +kernel
theorem dX4_advance_18 : decode cX4_advance 18 = .ok (.iload_n 1, 1) := by decide +kernel
theorem dX4_advance_19 : decode cX4_advance 19 = .ok (.invokevirtual 163, 3) := by decide +kernel
theorem dX4_advance_22 : decode cX4_advance 22 = .ok (.ifCond .eq 9, 3) := by decide +kernel
theorem dX4_advance_25 : decode cX4_advance 25 = .ok (.aload_n 0, 1) := by decide +kernel
theorem dX4_advance_26 : decode cX4_advance 26 = .ok (.iconst 2, 1) := by decide +kernel
theorem dX4_advance_27 : decode cX4_advance 27 = .ok (.invokevirtual 193, 3) := by decide +kernel
theorem dX4_advance_30 : decode cX4_advance 30 = .ok (.ireturn, 1) := by decide +kernel
theorem dX4_advance_31 : decode cX4_advance 31 = .ok (.aload_n 0, 1) := by decide +kernel
theorem dX4_advance_32 : decode cX4_advance 32 = .ok (.invokevirtual 254, 3) := by decide +kernel
theorem dX4_advance_35 : decode cX4_advance 35 = .ok (.aload_n 0, 1) := by decide +kernel
theorem dX4_advance_36 : decode cX4_advance 36 = .ok (.aload_n 0, 1) := by decide +kernel
theorem dX4_advance_37 : decode cX4_advance 37 = .ok (.iload_n 1, 1) := by decide +kernel
theorem dX4_advance_38 : decode cX4_advance 38 = .ok (.invokevirtual 61, 3) := by decide +kernel
theorem dX4_advance_41 : decode cX4_advance 41 = .ok (.invokevirtual 199, 3) := by decide +kernel
theorem dX4_advance_44 : decode cX4_advance 44 = .ok (.ireturn, 1) := by decide +kernel
theorem dX4_draw_0 : decode cX4_draw 0 = .ok (.aload_n 0, 1) := by decide +kernel
theorem dX4_draw_1 : decode cX4_draw 1 = .ok (.iload_n 1, 1) := by decide +kernel
theorem dX4_draw_2 : decode cX4_draw 2 = .ok (.invokevirtual 227, 3) := by decide +kernel
theorem dX4_draw_5 : decode cX4_draw 5 = .ok (.ifCond .ne 9, 3) := by decide +kernel
theorem dX4_draw_8 : decode cX4_draw 8 = .ok (.aload_n 0, 1) := by decide +kernel
theorem dX4_draw_9 : decode cX4_draw 9 = .ok (.iconst 1, 1) := by decide +kernel
theorem dX4_draw_10 : decode cX4_draw 10 = .ok (.invokevirtual 193, 3) := by decide +kernel
theorem dX4_draw_13 : decode cX4_draw 13 = .ok (.ireturn, 1) := by decide +kernel
theorem dX4_draw_14 : decode cX4_draw 14 = .ok (.aload_n 0, 1) := by decide +kernel
theorem dX4_draw_15 : decode cX4_draw 15 = .ok (.iload_n 1, 1) := by decide +kernel
theorem dX4_draw_16 : decode cX4_draw 16 = .ok (.invokevirtual 54, 3) := by decide +kernel
theorem dX4_draw_19 : decode cX4_draw 19 = .ok (.istore_n 2, 1) := by decide +kernel
theorem dX4_draw_20 : decode cX4_draw 20 = .ok (.iload_n 2, 1) := by decide +kernel
theorem dX4_draw_21 : decode cX4_draw 21 = .ok (.iconst (-1), 1) := by decide +kernel
theorem dX4_draw_22 : decode cX4_draw 22 = .ok (.if_icmp .ne 9, 3) := by decide +kernel
theorem dX4_draw_25 : decode cX4_draw 25 = .ok (.aload_n 0, 1) := by decide +kernel
theorem dX4_draw_26 : decode cX4_draw 26 = .ok (.iconst 2, 1) := by decide +kernel
theorem dX4_draw_27 : decode cX4_draw 27 = .ok (.invokevirtual 193, 3) := by decide +kernel
theorem dX4_draw_30 : decode cX4_draw 30 = .ok (.ireturn, 1) := by decide +kernel
theorem dX4_draw_31 : decode cX4_draw 31 = .ok (.aload_n 0, 1) := by decide +kernel
theorem dX4_draw_32 : decode cX4_draw 32 = .ok (.invokevirtual 254, 3) := by decide +kernel
theorem dX4_draw_35 : decode cX4_draw 35 = .ok (.aload_n 0, 1) := by decide +kernel
theorem dX4_draw_36 : decode cX4_draw 36 = .ok (.iload_n 1, 1) := by decide +kernel
theorem dX4_draw_37 : decode cX4_draw 37 = .ok (.iload_n 2, 1) := by decide +kernel
theorem dX4_draw_38 : decode cX4_draw 38 = .ok (.invokevirtual 57, 3) := by decide +kernel
theorem dX4_draw_41 : decode cX4_draw 41 = .ok (.aload_n 0, 1) := by decide +kernel
theorem dX4_draw_42 : decode cX4_draw 42 = .ok (.iload_n 2, 1) := by decide +kernel
theorem dX4_draw_43 : decode cX4_draw 43 = .ok (.invokevirtual 199, 3) := by decide +kernel
theorem dX4_draw_46 : decode cX4_draw 46 = .ok (.ireturn, 1) := by decide +kernel
theorem dX4_setBirthday_0 : decode cX4_setBirthday 0 = .ok (.aload_n 0, 1) := by decide +kernel
theorem dX4_setBirthday_1 : decode cX4_setBirthday 1 = .ok (.iload_n 1, 1) := by decide +kernel
theorem dX4_setBirthday_2 : decode cX4_setBirthday 2 = .ok (.invokevirtual 227, 3) := by decide +kernel
theorem dX4_setBirthday_5 : decode cX4_setBirthday 5 = .ok (.ifCond .ne 9, 3) := by decide +kernel
theorem dX4_setBirthday_8 : decode cX4_setBirthday 8 = .ok (.aload_n 0, 1) := by decide +kernel
theorem dX4_setBirthday_9 : decode cX4_setBirthday 9 = .ok (.iconst 1, 1) := by decide +kernel
theorem dX4_setBirthday_10 : decode cX4_setBirthday 10 = .ok (.invokevirtual 193, 3) := by decide +kernel
theorem dX4_setBirthday_13 : decode cX4_setBirthday 13 = .ok (.ireturn, 1) := by decide +kernel
theorem dX4_setBirthday_14 : decode cX4_setBirthday 14 = .ok (.iload_n 2, 1) := by decide +kernel
theorem dX4_setBirthday_15 : decode cX4_setBirthday 15 = .ok (.iload_n 3, 1) := by decide +kernel
theorem dX4_setBirthday_16 : decode cX4_setBirthday 16 = .ok (.invokestatic 220, 3) := by decide +kernel
theorem dX4_setBirthday_19 : decode cX4_setBirthday 19 = .ok (.ifCond .ne 9, 3) := by decide +kernel
theorem dX4_setBirthday_22 : decode cX4_setBirthday 22 = .ok (.aload_n 0, 1) := by decide +kernel
theorem dX4_setBirthday_23 : decode cX4_setBirthday 23 = .ok (.iconst 2, 1) := by decide +kernel
theorem dX4_setBirthday_24 : decode cX4_setBirthday 24 = .ok (.invokevirtual 193, 3) := by decide +kernel
theorem dX4_setBirthday_27 : decode cX4_setBirthday 27 = .ok (.ireturn, 1) := by decide +kernel
theorem dX4_setBirthday_28 : decode cX4_setBirthday 28 = .ok (.aload_n 0, 1) := by decide +kernel
theorem dX4_setBirthday_29 : decode cX4_setBirthday 29 = .ok (.iload_n 1, 1) := by decide +kernel
theorem dX4_setBirthday_30 : decode cX4_setBirthday 30 = .ok (.aload_n 0, 1) := by decide +kernel
theorem dX4_setBirthday_31 : decode cX4_setBirthday 31 = .ok (.getfield 13, 3) := by decide +kernel
theorem dX4_setBirthday_34 : decode cX4_setBirthday 34 = .ok (.iload_n 1, 1) := by decide +kernel
theorem dX4_setBirthday_35 : decode cX4_setBirthday 35 = .ok (.invokestatic 50, 3) := by decide +kernel
theorem dX4_setBirthday_38 : decode cX4_setBirthday 38 = .ok (.iconst 3, 1) := by decide +kernel
theorem dX4_setBirthday_39 : decode cX4_setBirthday 39 = .ok (.iadd, 1) := by decide +kernel
theorem dX4_setBirthday_40 : decode cX4_setBirthday 40 = .ok (.iaload, 1) := by decide +kernel
theorem dX4_setBirthday_41 : decode cX4_setBirthday 41 = .ok (.iload_n 2, 1) := by decide +kernel
theorem dX4_setBirthday_42 : decode cX4_setBirthday 42 = .ok (.iload_n 3, 1) := by decide +kernel
theorem dX4_setBirthday_43 : decode cX4_setBirthday 43 = .ok (.invokestatic 160, 3) := by decide +kernel
theorem dX4_setBirthday_46 : decode cX4_setBirthday 46 = .ok (.invokevirtual 86, 3) := by decide +kernel
theorem dX4_setBirthday_49 : decode cX4_setBirthday 49 = .ok (.ifCond .eq 9, 3) := by decide +kernel
theorem dX4_setBirthday_52 : decode cX4_setBirthday 52 = .ok (.aload_n 0, 1) := by decide +kernel
theorem dX4_setBirthday_53 : decode cX4_setBirthday 53 = .ok (.iconst 3, 1) := by decide +kernel
theorem dX4_setBirthday_54 : decode cX4_setBirthday 54 = .ok (.invokevirtual 193, 3) := by decide +kernel
theorem dX4_setBirthday_57 : decode cX4_setBirthday 57 = .ok (.ireturn, 1) := by decide +kernel
theorem dX4_setBirthday_58 : decode cX4_setBirthday 58 = .ok (.aload_n 0, 1) := by decide +kernel
theorem dX4_setBirthday_59 : decode cX4_setBirthday 59 = .ok (.invokevirtual 254, 3) := by decide +kernel
theorem dX4_setBirthday_62 : decode cX4_setBirthday 62 = .ok (.aload_n 0, 1) := by decide +kernel
theorem dX4_setBirthday_63 : decode cX4_setBirthday 63 = .ok (.getfield 13, 3) := by decide +kernel
theorem dX4_setBirthday_66 : decode cX4_setBirthday 66 = .ok (.iload_n 1, 1) := by decide +kernel
theorem dX4_setBirthday_67 : decode cX4_setBirthday 67 = .ok (.invokestatic 50, 3) := by decide +kernel
theorem dX4_setBirthday_70 : decode cX4_setBirthday 70 = .ok (.iconst 4, 1) := by decide +kernel
theorem dX4_setBirthday_71 : decode cX4_setBirthday 71 = .ok (.iadd, 1) := by decide +kernel
theorem dX4_setBirthday_72 : decode cX4_setBirthday 72 = .ok (.iload_n 2, 1) := by decide +kernel
theorem dX4_setBirthday_73 : decode cX4_setBirthday 73 = .ok (.iload_n 3, 1) := by decide +kernel
theorem dX4_setBirthday_74 : decode cX4_setBirthday 74 = .ok (.invokestatic 160, 3) := by decide +kernel
theorem dX4_setBirthday_77 : decode cX4_setBirthday 77 = .ok (.iastore, 1) := by decide +kernel
theorem dX4_setBirthday_78 : decode cX4_setBirthday 78 = .ok (.aload_n 0, 1) := by decide +kernel
theorem dX4_setBirthday_79 : decode cX4_setBirthday 79 = .ok (.aload_n 0, 1) := by decide +kernel
theorem dX4_setBirthday_80 : decode cX4_setBirthday 80 = .ok (.iload_n 2, 1) := by decide +kernel
theorem dX4_setBirthday_81 : decode cX4_setBirthday 81 = .ok (.iload_n 3, 1) := by decide +kernel
theorem dX4_setBirthday_82 : decode cX4_setBirthday 82 = .ok (.invokestatic 160, 3) := by decide +kernel
theorem dX4_setBirthday_85 : decode cX4_setBirthday 85 = .ok (.invokevirtual 236, 3) := by decide +kernel
theorem dX4_setBirthday_88 : decode cX4_setBirthday 88 = .ok (.invokevirtual 199, 3) := by decide +kernel
theorem dX4_setBirthday_91 : decode cX4_setBirthday 91 = .ok (.ireturn, 1) := by decide +kernel
theorem dX4_forgetBirthday_0 : decode cX4_forgetBirthday 0 = .ok (.aload_n 0, 1) := by decide +kernel
theorem dX4_forgetBirthday_1 : decode cX4_forgetBirthday 1 = .ok (.iload_n 1, 1) := by decide +kernel
theorem dX4_forgetBirthday_2 : decode cX4_forgetBirthday 2 = .ok (.invokevirtual 227, 3) := by decide +kernel
theorem dX4_forgetBirthday_5 : decode cX4_forgetBirthday 5 = .ok (.ifCond .ne 9, 3) := by decide +kernel
theorem dX4_forgetBirthday_8 : decode cX4_forgetBirthday 8 = .ok (.aload_n 0, 1) := by decide +kernel
theorem dX4_forgetBirthday_9 : decode cX4_forgetBirthday 9 = .ok (.iconst 1, 1) := by decide +kernel
theorem dX4_forgetBirthday_10 : decode cX4_forgetBirthday 10 = .ok (.invokevirtual 193, 3) := by decide +kernel
theorem dX4_forgetBirthday_13 : decode cX4_forgetBirthday 13 = .ok (.ireturn, 1) := by decide +kernel
theorem dX4_forgetBirthday_14 : decode cX4_forgetBirthday 14 = .ok (.aload_n 0, 1) := by decide +kernel
theorem dX4_forgetBirthday_15 : decode cX4_forgetBirthday 15 = .ok (.invokevirtual 254, 3) := by decide +kernel
theorem dX4_forgetBirthday_18 : decode cX4_forgetBirthday 18 = .ok (.aload_n 0, 1) := by decide +kernel
theorem dX4_forgetBirthday_19 : decode cX4_forgetBirthday 19 = .ok (.getfield 13, 3) := by decide +kernel
theorem dX4_forgetBirthday_22 : decode cX4_forgetBirthday 22 = .ok (.iload_n 1, 1) := by decide +kernel
theorem dX4_forgetBirthday_23 : decode cX4_forgetBirthday 23 = .ok (.invokestatic 50, 3) := by decide +kernel
theorem dX4_forgetBirthday_26 : decode cX4_forgetBirthday 26 = .ok (.iconst 4, 1) := by decide +kernel
theorem dX4_forgetBirthday_27 : decode cX4_forgetBirthday 27 = .ok (.iadd, 1) := by decide +kernel
theorem dX4_forgetBirthday_28 : decode cX4_forgetBirthday 28 = .ok (.iaload, 1) := by decide +kernel
theorem dX4_forgetBirthday_29 : decode cX4_forgetBirthday 29 = .ok (.istore_n 2, 1) := by decide +kernel
theorem dX4_forgetBirthday_30 : decode cX4_forgetBirthday 30 = .ok (.aload_n 0, 1) := by decide +kernel
theorem dX4_forgetBirthday_31 : decode cX4_forgetBirthday 31 = .ok (.getfield 13, 3) := by decide +kernel
theorem dX4_forgetBirthday_34 : decode cX4_forgetBirthday 34 = .ok (.iload_n 1, 1) := by decide +kernel
theorem dX4_forgetBirthday_35 : decode cX4_forgetBirthday 35 = .ok (.invokestatic 50, 3) := by decide +kernel
theorem dX4_forgetBirthday_38 : decode cX4_forgetBirthday 38 = .ok (.iconst 4, 1) := by decide +kernel
theorem dX4_forgetBirthday_39 : decode cX4_forgetBirthday 39 = .ok (.iadd, 1) := by decide +kernel
theorem dX4_forgetBirthday_40 : decode cX4_forgetBirthday 40 = .ok (.iconst (-1), 1) := by decide +kernel
theorem dX4_forgetBirthday_41 : decode cX4_forgetBirthday 41 = .ok (.iastore, 1) := by decide +kernel
theorem dX4_forgetBirthday_42 : decode cX4_forgetBirthday 42 = .ok (.aload_n 0, 1) := by decide +kernel
theorem dX4_forgetBirthday_43 : decode cX4_forgetBirthday 43 = .ok (.iload_n 2, 1) := by decide +kernel
theorem dX4_forgetBirthday_44 : decode cX4_forgetBirthday 44 = .ok (.invokevirtual 199, 3) := by decide +kernel
theorem dX4_forgetBirthday_47 : decode cX4_forgetBirthday 47 = .ok (.ireturn, 1) := by decide +kernel
theorem dX4_moveTo_0 : decode cX4_moveTo 0 = .ok (.aload_n 0, 1) := by decide +kernel
theorem dX4_moveTo_1 : decode cX4_moveTo 1 = .ok (.iload_n 1, 1) := by decide +kernel
theorem dX4_moveTo_2 : decode cX4_moveTo 2 = .ok (.invokevirtual 227, 3) := by decide +kernel
theorem dX4_moveTo_5 : decode cX4_moveTo 5 = .ok (.ifCond .eq 11, 3) := by decide +kernel
theorem dX4_moveTo_8 : decode cX4_moveTo 8 = .ok (.aload_n 0, 1) := by decide +kernel
theorem dX4_moveTo_9 : decode cX4_moveTo 9 = .ok (.iload_n 2, 1) := by decide +kernel
theorem dX4_moveTo_10 : decode cX4_moveTo 10 = .ok (.invokevirtual 217, 3) := by decide +kernel
theorem dX4_moveTo_13 : decode cX4_moveTo 13 = .ok (.ifCond .ne 9, 3) := by decide +kernel
theorem dX4_moveTo_16 : decode cX4_moveTo 16 = .ok (.aload_n 0, 1) := by decide +kernel
theorem dX4_moveTo_17 : decode cX4_moveTo 17 = .ok (.iconst 1, 1) := by decide +kernel
theorem dX4_moveTo_18 : decode cX4_moveTo 18 = .ok (.invokevirtual 193, 3) := by decide +kernel
theorem dX4_moveTo_21 : decode cX4_moveTo 21 = .ok (.ireturn, 1) := by decide +kernel
theorem dX4_moveTo_22 : decode cX4_moveTo 22 = .ok (.aload_n 0, 1) := by decide +kernel
theorem dX4_moveTo_23 : decode cX4_moveTo 23 = .ok (.iload_n 1, 1) := by decide +kernel
theorem dX4_moveTo_24 : decode cX4_moveTo 24 = .ok (.invokevirtual 233, 3) := by decide +kernel
theorem dX4_moveTo_27 : decode cX4_moveTo 27 = .ok (.ifCond .eq 29, 3) := by decide +kernel
theorem dX4_moveTo_30 : decode cX4_moveTo 30 = .ok (.aload_n 0, 1) := by decide +kernel
theorem dX4_moveTo_31 : decode cX4_moveTo 31 = .ok (.iload_n 1, 1) := by decide +kernel
theorem dX4_moveTo_32 : decode cX4_moveTo 32 = .ok (.iload_n 2, 1) := by decide +kernel
theorem dX4_moveTo_33 : decode cX4_moveTo 33 = .ok (.aload_n 0, 1) := by decide +kernel
theorem dX4_moveTo_34 : decode cX4_moveTo 34 = .ok (.getfield 13, 3) := by decide +kernel
theorem dX4_moveTo_37 : decode cX4_moveTo 37 = .ok (.iload_n 1, 1) := by decide +kernel
theorem dX4_moveTo_38 : decode cX4_moveTo 38 = .ok (.invokestatic 50, 3) := by decide +kernel
theorem dX4_moveTo_41 : decode cX4_moveTo 41 = .ok (.iconst 4, 1) := by decide +kernel
theorem dX4_moveTo_42 : decode cX4_moveTo 42 = .ok (.iadd, 1) := by decide +kernel
theorem dX4_moveTo_43 : decode cX4_moveTo 43 = .ok (.iaload, 1) := by decide +kernel
theorem dX4_moveTo_44 : decode cX4_moveTo 44 = .ok (.invokevirtual 86, 3) := by decide +kernel
theorem dX4_moveTo_47 : decode cX4_moveTo 47 = .ok (.ifCond .eq 9, 3) := by decide +kernel
theorem dX4_moveTo_50 : decode cX4_moveTo 50 = .ok (.aload_n 0, 1) := by decide +kernel
theorem dX4_moveTo_51 : decode cX4_moveTo 51 = .ok (.iconst 2, 1) := by decide +kernel
theorem dX4_moveTo_52 : decode cX4_moveTo 52 = .ok (.invokevirtual 193, 3) := by decide +kernel
theorem dX4_moveTo_55 : decode cX4_moveTo 55 = .ok (.ireturn, 1) := by decide +kernel
theorem dX4_moveTo_56 : decode cX4_moveTo 56 = .ok (.aload_n 0, 1) := by decide +kernel
theorem dX4_moveTo_57 : decode cX4_moveTo 57 = .ok (.invokevirtual 254, 3) := by decide +kernel
theorem dX4_moveTo_60 : decode cX4_moveTo 60 = .ok (.aload_n 0, 1) := by decide +kernel
theorem dX4_moveTo_61 : decode cX4_moveTo 61 = .ok (.getfield 13, 3) := by decide +kernel
theorem dX4_moveTo_64 : decode cX4_moveTo 64 = .ok (.iload_n 1, 1) := by decide +kernel
theorem dX4_moveTo_65 : decode cX4_moveTo 65 = .ok (.invokestatic 50, 3) := by decide +kernel
theorem dX4_moveTo_68 : decode cX4_moveTo 68 = .ok (.iconst 3, 1) := by decide +kernel
theorem dX4_moveTo_69 : decode cX4_moveTo 69 = .ok (.iadd, 1) := by decide +kernel
theorem dX4_moveTo_70 : decode cX4_moveTo 70 = .ok (.iaload, 1) := by decide +kernel
theorem dX4_moveTo_71 : decode cX4_moveTo 71 = .ok (.istore_n 3, 1) := by decide +kernel
theorem dX4_moveTo_72 : decode cX4_moveTo 72 = .ok (.aload_n 0, 1) := by decide +kernel
theorem dX4_moveTo_73 : decode cX4_moveTo 73 = .ok (.getfield 13, 3) := by decide +kernel
theorem dX4_moveTo_76 : decode cX4_moveTo 76 = .ok (.iload_n 1, 1) := by decide +kernel
theorem dX4_moveTo_77 : decode cX4_moveTo 77 = .ok (.invokestatic 50, 3) := by decide +kernel
theorem dX4_moveTo_80 : decode cX4_moveTo 80 = .ok (.iconst 3, 1) := by decide +kernel
theorem dX4_moveTo_81 : decode cX4_moveTo 81 = .ok (.iadd, 1) := by decide +kernel
theorem dX4_moveTo_82 : decode cX4_moveTo 82 = .ok (.iload_n 2, 1) := by decide +kernel
theorem dX4_moveTo_83 : decode cX4_moveTo 83 = .ok (.iastore, 1) := by decide +kernel
theorem dX4_moveTo_84 : decode cX4_moveTo 84 = .ok (.aload_n 0, 1) := by decide +kernel
theorem dX4_moveTo_85 : decode cX4_moveTo 85 = .ok (.iload_n 3, 1) := by decide +kernel
theorem dX4_moveTo_86 : decode cX4_moveTo 86 = .ok (.invokevirtual 199, 3) := by decide +kernel
theorem dX4_moveTo_89 : decode cX4_moveTo 89 = .ok (.ireturn, 1) := by decide +kernel
theorem dX4_buyCandles_0 : decode cX4_buyCandles 0 = .ok (.iload_n 1, 1) := by decide +kernel
theorem dX4_buyCandles_1 : decode cX4_buyCandles 1 = .ok (.iconst 1, 1) := by decide +kernel
theorem dX4_buyCandles_2 : decode cX4_buyCandles 2 = .ok (.sipush 999, 3) := by decide +kernel
theorem dX4_buyCandles_5 : decode cX4_buyCandles 5 = .ok (.invokestatic 67, 3) := by decide +kernel
theorem dX4_buyCandles_8 : decode cX4_buyCandles 8 = .ok (.ifCond .ne 9, 3) := by decide +kernel
theorem dX4_buyCandles_11 : decode cX4_buyCandles 11 = .ok (.aload_n 0, 1) := by decide +kernel
theorem dX4_buyCandles_12 : decode cX4_buyCandles 12 = .ok (.iconst 1, 1) := by decide +kernel
theorem dX4_buyCandles_13 : decode cX4_buyCandles 13 = .ok (.invokevirtual 193, 3) := by decide +kernel
theorem dX4_buyCandles_16 : decode cX4_buyCandles 16 = .ok (.ireturn, 1) := by decide +kernel
theorem dX4_buyCandles_17 : decode cX4_buyCandles 17 = .ok (.aload_n 0, 1) := by decide +kernel
theorem dX4_buyCandles_18 : decode cX4_buyCandles 18 = .ok (.getfield 13, 3) := by decide +kernel
theorem dX4_buyCandles_21 : decode cX4_buyCandles 21 = .ok (.iconst 3, 1) := by decide +kernel
theorem dX4_buyCandles_22 : decode cX4_buyCandles 22 = .ok (.iaload, 1) := by decide +kernel
theorem dX4_buyCandles_23 : decode cX4_buyCandles 23 = .ok (.iload_n 1, 1) := by decide +kernel
theorem dX4_buyCandles_24 : decode cX4_buyCandles 24 = .ok (.iadd, 1) := by decide +kernel
theorem dX4_buyCandles_25 : decode cX4_buyCandles 25 = .ok (.sipush 9999, 3) := by decide +kernel
theorem dX4_buyCandles_28 : decode cX4_buyCandles 28 = .ok (.if_icmp .le 9, 3) := by decide +kernel
theorem dX4_buyCandles_31 : decode cX4_buyCandles 31 = .ok (.aload_n 0, 1) := by decide +kernel
theorem dX4_buyCandles_32 : decode cX4_buyCandles 32 = .ok (.iconst 2, 1) := by decide +kernel
theorem dX4_buyCandles_33 : decode cX4_buyCandles 33 = .ok (.invokevirtual 193, 3) := by decide +kernel
theorem dX4_buyCandles_36 : decode cX4_buyCandles 36 = .ok (.ireturn, 1) := by decide +kernel
theorem dX4_buyCandles_37 : decode cX4_buyCandles 37 = .ok (.aload_n 0, 1) := by decide +kernel
theorem dX4_buyCandles_38 : decode cX4_buyCandles 38 = .ok (.invokevirtual 254, 3) := by decide +kernel
theorem dX4_buyCandles_41 : decode cX4_buyCandles 41 = .ok (.aload_n 0, 1) := by decide +kernel
theorem dX4_buyCandles_42 : decode cX4_buyCandles 42 = .ok (.getfield 13, 3) := by decide +kernel
theorem dX4_buyCandles_45 : decode cX4_buyCandles 45 = .ok (.iconst 3, 1) := by decide +kernel
theorem dX4_buyCandles_46 : decode cX4_buyCandles 46 = .ok (.dup2, 1) := by decide +kernel
theorem dX4_buyCandles_47 : decode cX4_buyCandles 47 = .ok (.iaload, 1) := by decide +kernel
theorem dX4_buyCandles_48 : decode cX4_buyCandles 48 = .ok (.iload_n 1, 1) := by decide +kernel
theorem dX4_buyCandles_49 : decode cX4_buyCandles 49 = .ok (.iadd, 1) := by decide +kernel
theorem dX4_buyCandles_50 : decode cX4_buyCandles 50 = .ok (.iastore, 1) := by decide +kernel
theorem dX4_buyCandles_51 : decode cX4_buyCandles 51 = .ok (.aload_n 0, 1) := by decide +kernel
theorem dX4_buyCandles_52 : decode cX4_buyCandles 52 = .ok (.getfield 13, 3) := by decide +kernel
theorem dX4_buyCandles_55 : decode cX4_buyCandles 55 = .ok (.bipush 7, 2) := by decide +kernel
theorem dX4_buyCandles_57 : decode cX4_buyCandles 57 = .ok (.dup2, 1) := by decide +kernel
theorem dX4_buyCandles_58 : decode cX4_buyCandles 58 = .ok (.iaload, 1) := by decide +kernel
theorem dX4_buyCandles_59 : decode cX4_buyCandles 59 = .ok (.iload_n 1, 1) := by decide +kernel
theorem dX4_buyCandles_60 : decode cX4_buyCandles 60 = .ok (.iadd, 1) := by decide +kernel
theorem dX4_buyCandles_61 : decode cX4_buyCandles 61 = .ok (.iastore, 1) := by decide +kernel
theorem dX4_buyCandles_62 : decode cX4_buyCandles 62 = .ok (.aload_n 0, 1) := by decide +kernel
theorem dX4_buyCandles_63 : decode cX4_buyCandles 63 = .ok (.aload_n 0, 1) := by decide +kernel
theorem dX4_buyCandles_64 : decode cX4_buyCandles 64 = .ok (.getfield 13, 3) := by decide +kernel
theorem dX4_buyCandles_67 : decode cX4_buyCandles 67 = .ok (.iconst 3, 1) := by decide +kernel
theorem dX4_buyCandles_68 : decode cX4_buyCandles 68 = .ok (.iaload, 1) := by decide +kernel
theorem dX4_buyCandles_69 : decode cX4_buyCandles 69 = .ok (.invokevirtual 199, 3) := by decide +kernel
theorem dX4_buyCandles_72 : decode cX4_buyCandles 72 = .ok (.ireturn, 1) := by decide +kernel
theorem dX4_bakeCakes_0 : decode cX4_bakeCakes 0 = .ok (.iload_n 1, 1) := by decide +kernel
theorem dX4_bakeCakes_1 : decode cX4_bakeCakes 1 = .ok (.iconst 0, 1) := by decide +kernel
theorem dX4_bakeCakes_2 : decode cX4_bakeCakes 2 = .ok (.iconst 5, 1) := by decide +kernel
theorem dX4_bakeCakes_3 : decode cX4_bakeCakes 3 = .ok (.invokestatic 67, 3) := by decide +kernel
theorem dX4_bakeCakes_6 : decode cX4_bakeCakes 6 = .ok (.ifCond .eq 13, 3) := by decide +kernel
theorem dX4_bakeCakes_9 : decode cX4_bakeCakes 9 = .ok (.iload_n 2, 1) := by decide +kernel
theorem dX4_bakeCakes_10 : decode cX4_bakeCakes 10 = .ok (.iconst 1, 1) := by decide +kernel
theorem dX4_bakeCakes_11 : decode cX4_bakeCakes 11 = .ok (.bipush 99, 2) := by decide +kernel
theorem dX4_bakeCakes_13 : decode cX4_bakeCakes 13 = .ok (.invokestatic 67, 3) := by decide +kernel
theorem dX4_bakeCakes_16 : decode cX4_bakeCakes 16 = .ok (.ifCond .ne 9, 3) := by decide +kernel
theorem dX4_bakeCakes_19 : decode cX4_bakeCakes 19 = .ok (.aload_n 0, 1) := by decide +kernel
theorem dX4_bakeCakes_20 : decode cX4_bakeCakes 20 = .ok (.iconst 1, 1) := by decide +kernel
theorem dX4_bakeCakes_21 : decode cX4_bakeCakes 21 = .ok (.invokevirtual 193, 3) := by decide +kernel
theorem dX4_bakeCakes_24 : decode cX4_bakeCakes 24 = .ok (.ireturn, 1) := by decide +kernel
theorem dX4_bakeCakes_25 : decode cX4_bakeCakes 25 = .ok (.aload_n 0, 1) := by decide +kernel
theorem dX4_bakeCakes_26 : decode cX4_bakeCakes 26 = .ok (.getfield 13, 3) := by decide +kernel
theorem dX4_bakeCakes_29 : decode cX4_bakeCakes 29 = .ok (.bipush 11, 2) := by decide +kernel
theorem dX4_bakeCakes_31 : decode cX4_bakeCakes 31 = .ok (.iload_n 1, 1) := by decide +kernel
theorem dX4_bakeCakes_32 : decode cX4_bakeCakes 32 = .ok (.iadd, 1) := by decide +kernel
theorem dX4_bakeCakes_33 : decode cX4_bakeCakes 33 = .ok (.iaload, 1) := by decide +kernel
theorem dX4_bakeCakes_34 : decode cX4_bakeCakes 34 = .ok (.iload_n 2, 1) := by decide +kernel
theorem dX4_bakeCakes_35 : decode cX4_bakeCakes 35 = .ok (.iadd, 1) := by decide +kernel
theorem dX4_bakeCakes_36 : decode cX4_bakeCakes 36 = .ok (.bipush 99, 2) := by decide +kernel
theorem dX4_bakeCakes_38 : decode cX4_bakeCakes 38 = .ok (.if_icmp .le 9, 3) := by decide +kernel
theorem dX4_bakeCakes_41 : decode cX4_bakeCakes 41 = .ok (.aload_n 0, 1) := by decide +kernel
theorem dX4_bakeCakes_42 : decode cX4_bakeCakes 42 = .ok (.iconst 2, 1) := by decide +kernel
theorem dX4_bakeCakes_43 : decode cX4_bakeCakes 43 = .ok (.invokevirtual 193, 3) := by decide +kernel
theorem dX4_bakeCakes_46 : decode cX4_bakeCakes 46 = .ok (.ireturn, 1) := by decide +kernel
theorem dX4_bakeCakes_47 : decode cX4_bakeCakes 47 = .ok (.aload_n 0, 1) := by decide +kernel
theorem dX4_bakeCakes_48 : decode cX4_bakeCakes 48 = .ok (.invokevirtual 254, 3) := by decide +kernel
theorem dX4_bakeCakes_51 : decode cX4_bakeCakes 51 = .ok (.aload_n 0, 1) := by decide +kernel
theorem dX4_bakeCakes_52 : decode cX4_bakeCakes 52 = .ok (.getfield 13, 3) := by decide +kernel
theorem dX4_bakeCakes_55 : decode cX4_bakeCakes 55 = .ok (.bipush 11, 2) := by decide +kernel
theorem dX4_bakeCakes_57 : decode cX4_bakeCakes 57 = .ok (.iload_n 1, 1) := by decide +kernel
theorem dX4_bakeCakes_58 : decode cX4_bakeCakes 58 = .ok (.iadd, 1) := by decide +kernel
theorem dX4_bakeCakes_59 : decode cX4_bakeCakes 59 = .ok (.dup2, 1) := by decide +kernel
theorem dX4_bakeCakes_60 : decode cX4_bakeCakes 60 = .ok (.iaload, 1) := by decide +kernel
theorem dX4_bakeCakes_61 : decode cX4_bakeCakes 61 = .ok (.iload_n 2, 1) := by decide +kernel
theorem dX4_bakeCakes_62 : decode cX4_bakeCakes 62 = .ok (.iadd, 1) := by decide +kernel
theorem dX4_bakeCakes_63 : decode cX4_bakeCakes 63 = .ok (.iastore, 1) := by decide +kernel
theorem dX4_bakeCakes_64 : decode cX4_bakeCakes 64 = .ok (.aload_n 0, 1) := by decide +kernel
theorem dX4_bakeCakes_65 : decode cX4_bakeCakes 65 = .ok (.aload_n 0, 1) := by decide +kernel
theorem dX4_bakeCakes_66 : decode cX4_bakeCakes 66 = .ok (.getfield 13, 3) := by decide +kernel
theorem dX4_bakeCakes_69 : decode cX4_bakeCakes 69 = .ok (.bipush 11, 2) := by decide +kernel
theorem dX4_bakeCakes_71 : decode cX4_bakeCakes 71 = .ok (.iload_n 1, 1) := by decide +kernel
theorem dX4_bakeCakes_72 : decode cX4_bakeCakes 72 = .ok (.iadd, 1) := by decide +kernel
theorem dX4_bakeCakes_73 : decode cX4_bakeCakes 73 = .ok (.iaload, 1) := by decide +kernel
theorem dX4_bakeCakes_74 : decode cX4_bakeCakes 74 = .ok (.invokevirtual 199, 3) := by decide +kernel
theorem dX4_bakeCakes_77 : decode cX4_bakeCakes 77 = .ok (.ireturn, 1) := by decide +kernel
theorem dX4_restore_0 : decode cX4_restore 0 = .ok (.iload_n 1, 1) := by decide +kernel
theorem dX4_restore_1 : decode cX4_restore 1 = .ok (.iconst 0, 1) := by decide +kernel
theorem dX4_restore_2 : decode cX4_restore 2 = .ok (.iconst 1, 1) := by decide +kernel
theorem dX4_restore_3 : decode cX4_restore 3 = .ok (.invokestatic 67, 3) := by decide +kernel
theorem dX4_restore_6 : decode cX4_restore 6 = .ok (.ifCond .ne 9, 3) := by decide +kernel
theorem dX4_restore_9 : decode cX4_restore 9 = .ok (.aload_n 0, 1) := by decide +kernel
theorem dX4_restore_10 : decode cX4_restore 10 = .ok (.iconst 1, 1) := by decide +kernel
theorem dX4_restore_11 : decode cX4_restore 11 = .ok (.invokevirtual 193, 3) := by decide +kernel
theorem dX4_restore_14 : decode cX4_restore 14 = .ok (.ireturn, 1) := by decide +kernel
theorem dX4_restore_15 : decode cX4_restore 15 = .ok (.aload_n 0, 1) := by decide +kernel
theorem dX4_restore_16 : decode cX4_restore 16 = .ok (.getfield 214, 3) := by decide +kernel
theorem dX4_restore_19 : decode cX4_restore 19 = .ok (.iload_n 1, 1) := by decide +kernel
theorem dX4_restore_20 : decode cX4_restore 20 = .ok (.ishr, 1) := by decide +kernel
theorem dX4_restore_21 : decode cX4_restore 21 = .ok (.iconst 1, 1) := by decide +kernel
theorem dX4_restore_22 : decode cX4_restore 22 = .ok (.iand, 1) := by decide +kernel
theorem dX4_restore_23 : decode cX4_restore 23 = .ok (.ifCond .ne 9, 3) := by decide +kernel
theorem dX4_restore_26 : decode cX4_restore 26 = .ok (.aload_n 0, 1) := by decide +kernel
theorem dX4_restore_27 : decode cX4_restore 27 = .ok (.iconst 2, 1) := by decide +kernel
theorem dX4_restore_28 : decode cX4_restore 28 = .ok (.invokevirtual 193, 3) := by decide +kernel
theorem dX4_restore_31 : decode cX4_restore 31 = .ok (.ireturn, 1) := by decide +kernel
theorem dX4_restore_32 : decode cX4_restore 32 = .ok (.aload_n 0, 1) := by decide +kernel
theorem dX4_restore_33 : decode cX4_restore 33 = .ok (.invokevirtual 254, 3) := by decide +kernel
theorem dX4_restore_36 : decode cX4_restore 36 = .ok (.iconst 0, 1) := by decide +kernel
theorem dX4_restore_37 : decode cX4_restore 37 = .ok (.istore_n 2, 1) := by decide +kernel
theorem dX4_restore_38 : decode cX4_restore 38 = .ok (.iload_n 2, 1) := by decide +kernel
theorem dX4_restore_39 : decode cX4_restore 39 = .ok (.sipush 151, 3) := by decide +kernel
theorem dX4_restore_42 : decode cX4_restore 42 = .ok (.if_icmp .ge 27, 3) := by decide +kernel
theorem dX4_restore_45 : decode cX4_restore 45 = .ok (.aload_n 0, 1) := by decide +kernel
theorem dX4_restore_46 : decode cX4_restore 46 = .ok (.getfield 13, 3) := by decide +kernel
theorem dX4_restore_49 : decode cX4_restore 49 = .ok (.iload_n 2, 1) := by decide +kernel
theorem dX4_restore_50 : decode cX4_restore 50 = .ok (.aload_n 0, 1) := by decide +kernel
theorem dX4_restore_51 : decode cX4_restore 51 = .ok (.getfield 22, 3) := by decide +kernel
theorem dX4_restore_54 : decode cX4_restore 54 = .ok (.iload_n 1, 1) := by decide +kernel
theorem dX4_restore_55 : decode cX4_restore 55 = .ok (.sipush 151, 3) := by decide +kernel
theorem dX4_restore_58 : decode cX4_restore 58 = .ok (.imul, 1) := by decide +kernel
theorem dX4_restore_59 : decode cX4_restore 59 = .ok (.iload_n 2, 1) := by decide +kernel
theorem dX4_restore_60 : decode cX4_restore 60 = .ok (.iadd, 1) := by decide +kernel
theorem dX4_restore_61 : decode cX4_restore 61 = .ok (.iaload, 1) := by decide +kernel
theorem dX4_restore_62 : decode cX4_restore 62 = .ok (.iastore, 1) := by decide +kernel
theorem dX4_restore_63 : decode cX4_restore 63 = .ok (.iinc 2 1, 3) := by decide +kernel
theorem dX4_restore_66 : decode cX4_restore 66 = .ok (.goto (-28), 3) := by decide +kernel
theorem dX4_restore_69 : decode cX4_restore 69 = .ok (.aload_n 0, 1) := by decide +kernel
theorem dX4_restore_70 : decode cX4_restore 70 = .ok (.aload_n 0, 1) := by decide +kernel
theorem dX4_restore_71 : decode cX4_restore 71 = .ok (.getfield 13, 3) := by decide +kernel
theorem dX4_restore_74 : decode cX4_restore 74 = .ok (.iconst 0, 1) := by decide +kernel
theorem dX4_restore_75 : decode cX4_restore 75 = .ok (.iaload, 1) := by decide +kernel
theorem dX4_restore_76 : decode cX4_restore 76 = .ok (.invokevirtual 199, 3) := by decide +kernel
theorem dX4_restore_79 : decode cX4_restore 79 = .ok (.ireturn, 1) := by decide +kernel
theorem dX4_undo_0 : decode cX4_undo 0 = .ok (.aload_n 0, 1) := by decide +kernel
theorem dX4_undo_1 : decode cX4_undo 1 = .ok (.getfield 106, 3) := by decide +kernel
theorem dX4_undo_4 : decode cX4_undo 4 = .ok (.ifCond .ne 9, 3) := by decide +kernel
theorem dX4_undo_7 : decode cX4_undo 7 = .ok (.aload_n 0, 1) := by decide +kernel
theorem dX4_undo_8 : decode cX4_undo 8 = .ok (.iconst 1, 1) := by decide +kernel
theorem dX4_undo_9 : decode cX4_undo 9 = .ok (.invokevirtual 193, 3) := by decide +kernel
theorem dX4_undo_12 : decode cX4_undo 12 = .ok (.ireturn, 1) := by decide +kernel
theorem dX4_undo_13 : decode cX4_undo 13 = .ok (.aload_n 0, 1) := by decide +kernel
theorem dX4_undo_14 : decode cX4_undo 14 = .ok (.dup, 1) := by decide +kernel
theorem dX4_undo_15 : decode cX4_undo 15 = .ok (.getfield 106, 3) := by decide +kernel
theorem dX4_undo_18 : decode cX4_undo 18 = .ok (.iconst 1, 1) := by decide +kernel
theorem dX4_undo_19 : decode cX4_undo 19 = .ok (.isub, 1) := by decide +kernel
theorem dX4_undo_20 : decode cX4_undo 20 = .ok (.putfield 106, 3) := by decide +kernel
theorem dX4_undo_23 : decode cX4_undo 23 = .ok (.iconst 0, 1) := by decide +kernel
theorem dX4_undo_24 : decode cX4_undo 24 = .ok (.istore_n 1, 1) := by decide +kernel
theorem dX4_undo_25 : decode cX4_undo 25 = .ok (.iload_n 1, 1) := by decide +kernel
theorem dX4_undo_26 : decode cX4_undo 26 = .ok (.sipush 151, 3) := by decide +kernel
theorem dX4_undo_29 : decode cX4_undo 29 = .ok (.if_icmp .ge 30, 3) := by decide +kernel
theorem dX4_undo_32 : decode cX4_undo 32 = .ok (.aload_n 0, 1) := by decide +kernel
theorem dX4_undo_33 : decode cX4_undo 33 = .ok (.getfield 13, 3) := by decide +kernel
theorem dX4_undo_36 : decode cX4_undo 36 = .ok (.iload_n 1, 1) := by decide +kernel
theorem dX4_undo_37 : decode cX4_undo 37 = .ok (.aload_n 0, 1) := by decide +kernel
theorem dX4_undo_38 : decode cX4_undo 38 = .ok (.getfield 19, 3) := by decide +kernel
theorem dX4_undo_41 : decode cX4_undo 41 = .ok (.aload_n 0, 1) := by decide +kernel
theorem dX4_undo_42 : decode cX4_undo 42 = .ok (.getfield 106, 3) := by decide +kernel
theorem dX4_undo_45 : decode cX4_undo 45 = .ok (.sipush 151, 3) := by decide +kernel
theorem dX4_undo_48 : decode cX4_undo 48 = .ok (.imul, 1) := by decide +kernel
theorem dX4_undo_49 : decode cX4_undo 49 = .ok (.iload_n 1, 1) := by decide +kernel
theorem dX4_undo_50 : decode cX4_undo 50 = .ok (.iadd, 1) := by decide +kernel
theorem dX4_undo_51 : decode cX4_undo 51 = .ok (.iaload, 1) := by decide +kernel
theorem dX4_undo_52 : decode cX4_undo 52 = .ok (.iastore, 1) := by decide +kernel
theorem dX4_undo_53 : decode cX4_undo 53 = .ok (.iinc 1 1, 3) := by decide +kernel
theorem dX4_undo_56 : decode cX4_undo 56 = .ok (.goto (-31), 3) := by decide +kernel
theorem dX4_undo_59 : decode cX4_undo 59 = .ok (.aload_n 0, 1) := by decide +kernel
theorem dX4_undo_60 : decode cX4_undo 60 = .ok (.aload_n 0, 1) := by decide +kernel
theorem dX4_undo_61 : decode cX4_undo 61 = .ok (.getfield 106, 3) := by decide +kernel
theorem dX4_undo_64 : decode cX4_undo 64 = .ok (.invokevirtual 199, 3) := by decide +kernel
theorem dX4_undo_67 : decode cX4_undo 67 = .ok (.ireturn, 1) := by decide +kernel
theorem dX4_save_0 : decode cX4_save 0 = .ok (.iload_n 1, 1) := by decide +kernel
theorem dX4_save_1 : decode cX4_save 1 = .ok (.iconst 0, 1) := by decide +kernel
theorem dX4_save_2 : decode cX4_save 2 = .ok (.iconst 1, 1) := by decide +kernel
theorem dX4_save_3 : decode cX4_save 3 = .ok (.invokestatic 67, 3) := by decide +kernel
theorem dX4_save_6 : decode cX4_save 6 = .ok (.ifCond .ne 9, 3) := by decide +kernel
theorem dX4_save_9 : decode cX4_save 9 = .ok (.aload_n 0, 1) := by decide +kernel
theorem dX4_save_10 : decode cX4_save 10 = .ok (.iconst 1, 1) := by decide +kernel
theorem dX4_save_11 : decode cX4_save 11 = .ok (.invokevirtual 193, 3) := by decide +kernel
theorem dX4_save_14 : decode cX4_save 14 = .ok (.ireturn, 1) := by decide +kernel
theorem dX4_save_15 : decode cX4_save 15 = .ok (.iconst 0, 1) := by decide +kernel
theorem dX4_save_16 : decode cX4_save 16 = .ok (.istore_n 2, 1) := by decide +kernel
theorem dX4_save_17 : decode cX4_save 17 = .ok (.iload_n 2, 1) := by decide +kernel
theorem dX4_save_18 : decode cX4_save 18 = .ok (.sipush 151, 3) := by decide +kernel
theorem dX4_save_21 : decode cX4_save 21 = .ok (.if_icmp .ge 27, 3) := by decide +kernel
theorem dX4_save_24 : decode cX4_save 24 = .ok (.aload_n 0, 1) := by decide +kernel
theorem dX4_save_25 : decode cX4_save 25 = .ok (.getfield 22, 3) := by decide +kernel
theorem dX4_save_28 : decode cX4_save 28 = .ok (.iload_n 1, 1) := by decide +kernel
theorem dX4_save_29 : decode cX4_save 29 = .ok (.sipush 151, 3) := by decide +kernel
theorem dX4_save_32 : decode cX4_save 32 = .ok (.imul, 1) := by decide +kernel
theorem dX4_save_33 : decode cX4_save 33 = .ok (.iload_n 2, 1) := by decide +kernel
theorem dX4_save_34 : decode cX4_save 34 = .ok (.iadd, 1) := by decide +kernel
theorem dX4_save_35 : decode cX4_save 35 = .ok (.aload_n 0, 1) := by decide +kernel
theorem dX4_save_36 : decode cX4_save 36 = .ok (.getfield 13, 3) := by decide +kernel
theorem dX4_save_39 : decode cX4_save 39 = .ok (.iload_n 2, 1) := by decide +kernel
theorem dX4_save_40 : decode cX4_save 40 = .ok (.iaload, 1) := by decide +kernel
theorem dX4_save_41 : decode cX4_save 41 = .ok (.iastore, 1) := by decide +kernel
theorem dX4_save_42 : decode cX4_save 42 = .ok (.iinc 2 1, 3) := by decide +kernel
theorem dX4_save_45 : decode cX4_save 45 = .ok (.goto (-28), 3) := by decide +kernel
theorem dX4_save_48 : decode cX4_save 48 = .ok (.aload_n 0, 1) := by decide +kernel
theorem dX4_save_49 : decode cX4_save 49 = .ok (.dup, 1) := by decide +kernel
theorem dX4_save_50 : decode cX4_save 50 = .ok (.getfield 214, 3) := by decide +kernel
theorem dX4_save_53 : decode cX4_save 53 = .ok (.iconst 1, 1) := by decide +kernel
theorem dX4_save_54 : decode cX4_save 54 = .ok (.iload_n 1, 1) := by decide +kernel
theorem dX4_save_55 : decode cX4_save 55 = .ok (.ishl, 1) := by decide +kernel
theorem dX4_save_56 : decode cX4_save 56 = .ok (.ior, 1) := by decide +kernel
theorem dX4_save_57 : decode cX4_save 57 = .ok (.putfield 214, 3) := by decide +kernel
theorem dX4_save_60 : decode cX4_save 60 = .ok (.aload_n 0, 1) := by decide +kernel
theorem dX4_save_61 : decode cX4_save 61 = .ok (.aload_n 0, 1) := by decide +kernel
theorem dX4_save_62 : decode cX4_save 62 = .ok (.getfield 13, 3) := by decide +kernel
theorem dX4_save_65 : decode cX4_save 65 = .ok (.iconst 0, 1) := by decide +kernel
theorem dX4_save_66 : decode cX4_save 66 = .ok (.iaload, 1) := by decide +kernel
theorem dX4_save_67 : decode cX4_save 67 = .ok (.invokevirtual 199, 3) := by decide +kernel
theorem dX4_save_70 : decode cX4_save 70 = .ok (.ireturn, 1) := by decide +kernel
theorem dX4_writes_0 : decode cX4_writes 0 = .ok (.aload_n 0, 1) := by decide +kernel
theorem dX4_writes_1 : decode cX4_writes 1 = .ok (.getfield 32, 3) := by decide +kernel
theorem dX4_writes_4 : decode cX4_writes 4 = .ok (.aload_n 0, 1) := by decide +kernel
theorem dX4_writes_5 : decode cX4_writes 5 = .ok (.getfield 257, 3) := by decide +kernel
theorem dX4_writes_8 : decode cX4_writes 8 = .ok (.iload_n 1, 1) := by decide +kernel
theorem dX4_writes_9 : decode cX4_writes 9 = .ok (.i2b, 1) := by decide +kernel
theorem dX4_writes_10 : decode cX4_writes 10 = .ok (.bastore, 1) := by decide +kernel
theorem dX4_writes_11 : decode cX4_writes 11 = .ok (.aload_n 0, 1) := by decide +kernel
theorem dX4_writes_12 : decode cX4_writes 12 = .ok (.dup, 1) := by decide +kernel
theorem dX4_writes_13 : decode cX4_writes 13 = .ok (.getfield 257, 3) := by decide +kernel
theorem dX4_writes_16 : decode cX4_writes 16 = .ok (.iconst 1, 1) := by decide +kernel
theorem dX4_writes_17 : decode cX4_writes 17 = .ok (.iadd, 1) := by decide +kernel
theorem dX4_writes_18 : decode cX4_writes 18 = .ok (.putfield 257, 3) := by decide +kernel
theorem dX4_writes_21 : decode cX4_writes 21 = .ok (.return_, 1) := by decide +kernel
theorem dX4_writesNumber_0 : decode cX4_writesNumber 0 = .ok (.iconst 1, 1) := by decide +kernel
theorem dX4_writesNumber_1 : decode cX4_writesNumber 1 = .ok (.istore_n 2, 1) := by decide +kernel
theorem dX4_writesNumber_2 : decode cX4_writesNumber 2 = .ok (.iload_n 1, 1) := by decide +kernel
theorem dX4_writesNumber_3 : decode cX4_writesNumber 3 = .ok (.iload_n 2, 1) := by decide +kernel
theorem dX4_writesNumber_4 : decode cX4_writesNumber 4 = .ok (.idiv, 1) := by decide +kernel
theorem dX4_writesNumber_5 : decode cX4_writesNumber 5 = .ok (.bipush 9, 2) := by decide +kernel
theorem dX4_writesNumber_7 : decode cX4_writesNumber 7 = .ok (.if_icmp .le 11, 3) := by decide +kernel
theorem dX4_writesNumber_10 : decode cX4_writesNumber 10 = .ok (.iload_n 2, 1) := by decide +kernel
theorem dX4_writesNumber_11 : decode cX4_writesNumber 11 = .ok (.bipush 10, 2) := by decide +kernel
theorem dX4_writesNumber_13 : decode cX4_writesNumber 13 = .ok (.imul, 1) := by decide +kernel
theorem dX4_writesNumber_14 : decode cX4_writesNumber 14 = .ok (.istore_n 2, 1) := by decide +kernel
theorem dX4_writesNumber_15 : decode cX4_writesNumber 15 = .ok (.goto (-13), 3) := by decide +kernel
theorem dX4_writesNumber_18 : decode cX4_writesNumber 18 = .ok (.iload_n 2, 1) := by decide +kernel
theorem dX4_writesNumber_19 : decode cX4_writesNumber 19 = .ok (.ifCond .le 24, 3) := by decide +kernel
theorem dX4_writesNumber_22 : decode cX4_writesNumber 22 = .ok (.aload_n 0, 1) := by decide +kernel
theorem dX4_writesNumber_23 : decode cX4_writesNumber 23 = .ok (.bipush 48, 2) := by decide +kernel
theorem dX4_writesNumber_25 : decode cX4_writesNumber 25 = .ok (.iload_n 1, 1) := by decide +kernel
theorem dX4_writesNumber_26 : decode cX4_writesNumber 26 = .ok (.iload_n 2, 1) := by decide +kernel
theorem dX4_writesNumber_27 : decode cX4_writesNumber 27 = .ok (.idiv, 1) := by decide +kernel
theorem dX4_writesNumber_28 : decode cX4_writesNumber 28 = .ok (.bipush 10, 2) := by decide +kernel
theorem dX4_writesNumber_30 : decode cX4_writesNumber 30 = .ok (.irem, 1) := by decide +kernel
theorem dX4_writesNumber_31 : decode cX4_writesNumber 31 = .ok (.iadd, 1) := by decide +kernel
theorem dX4_writesNumber_32 : decode cX4_writesNumber 32 = .ok (.invokevirtual 260, 3) := by decide +kernel
theorem dX4_writesNumber_35 : decode cX4_writesNumber 35 = .ok (.iload_n 2, 1) := by decide +kernel
theorem dX4_writesNumber_36 : decode cX4_writesNumber 36 = .ok (.bipush 10, 2) := by decide +kernel
theorem dX4_writesNumber_38 : decode cX4_writesNumber 38 = .ok (.idiv, 1) := by decide +kernel
theorem dX4_writesNumber_39 : decode cX4_writesNumber 39 = .ok (.istore_n 2, 1) := by decide +kernel
theorem dX4_writesNumber_40 : decode cX4_writesNumber 40 = .ok (.goto (-22), 3) := by decide +kernel
theorem dX4_writesNumber_43 : decode cX4_writesNumber 43 = .ok (.return_, 1) := by decide +kernel
theorem dX4_writeChild_0 : decode cX4_writeChild 0 = .ok (.aload_n 0, 1) := by decide +kernel
theorem dX4_writeChild_1 : decode cX4_writeChild 1 = .ok (.iload_n 1, 1) := by decide +kernel
theorem dX4_writeChild_2 : decode cX4_writeChild 2 = .ok (.invokevirtual 227, 3) := by decide +kernel
theorem dX4_writeChild_5 : decode cX4_writeChild 5 = .ok (.ifCond .ne 9, 3) := by decide +kernel
theorem dX4_writeChild_8 : decode cX4_writeChild 8 = .ok (.aload_n 0, 1) := by decide +kernel
theorem dX4_writeChild_9 : decode cX4_writeChild 9 = .ok (.iconst 1, 1) := by decide +kernel
theorem dX4_writeChild_10 : decode cX4_writeChild 10 = .ok (.invokevirtual 193, 3) := by decide +kernel
theorem dX4_writeChild_13 : decode cX4_writeChild 13 = .ok (.ireturn, 1) := by decide +kernel
theorem dX4_writeChild_14 : decode cX4_writeChild 14 = .ok (.iload_n 1, 1) := by decide +kernel
theorem dX4_writeChild_15 : decode cX4_writeChild 15 = .ok (.invokestatic 50, 3) := by decide +kernel
theorem dX4_writeChild_18 : decode cX4_writeChild 18 = .ok (.istore_n 2, 1) := by decide +kernel
theorem dX4_writeChild_19 : decode cX4_writeChild 19 = .ok (.aload_n 0, 1) := by decide +kernel
theorem dX4_writeChild_20 : decode cX4_writeChild 20 = .ok (.iconst 0, 1) := by decide +kernel
theorem dX4_writeChild_21 : decode cX4_writeChild 21 = .ok (.putfield 257, 3) := by decide +kernel
theorem dX4_writeChild_24 : decode cX4_writeChild 24 = .ok (.iconst 0, 1) := by decide +kernel
theorem dX4_writeChild_25 : decode cX4_writeChild 25 = .ok (.istore_n 3, 1) := by decide +kernel
theorem dX4_writeChild_26 : decode cX4_writeChild 26 = .ok (.iload_n 3, 1) := by decide +kernel
theorem dX4_writeChild_27 : decode cX4_writeChild 27 = .ok (.bipush 6, 2) := by decide +kernel
theorem dX4_writeChild_29 : decode cX4_writeChild 29 = .ok (.if_icmp .ge 38, 3) := by decide +kernel
theorem dX4_writeChild_32 : decode cX4_writeChild 32 = .ok (.aload_n 0, 1) := by decide +kernel
theorem dX4_writeChild_33 : decode cX4_writeChild 33 = .ok (.getfield 13, 3) := by decide +kernel
theorem dX4_writeChild_36 : decode cX4_writeChild 36 = .ok (.iload_n 2, 1) := by decide +kernel
theorem dX4_writeChild_37 : decode cX4_writeChild 37 = .ok (.bipush 7, 2) := by decide +kernel
theorem dX4_writeChild_39 : decode cX4_writeChild 39 = .ok (.iadd, 1) := by decide +kernel
theorem dX4_writeChild_40 : decode cX4_writeChild 40 = .ok (.iload_n 3, 1) := by decide +kernel
theorem dX4_writeChild_41 : decode cX4_writeChild 41 = .ok (.iadd, 1) := by decide +kernel
theorem dX4_writeChild_42 : decode cX4_writeChild 42 = .ok (.iaload, 1) := by decide +kernel
theorem dX4_writeChild_43 : decode cX4_writeChild 43 = .ok (.ifCond .eq 24, 3) := by decide +kernel
theorem dX4_writeChild_46 : decode cX4_writeChild 46 = .ok (.aload_n 0, 1) := by decide +kernel
theorem dX4_writeChild_47 : decode cX4_writeChild 47 = .ok (.aload_n 0, 1) := by decide +kernel
theorem dX4_writeChild_48 : decode cX4_writeChild 48 = .ok (.getfield 13, 3) := by decide +kernel
theorem dX4_writeChild_51 : decode cX4_writeChild 51 = .ok (.iload_n 2, 1) := by decide +kernel
theorem dX4_writeChild_52 : decode cX4_writeChild 52 = .ok (.bipush 7, 2) := by decide +kernel
theorem dX4_writeChild_54 : decode cX4_writeChild 54 = .ok (.iadd, 1) := by decide +kernel
theorem dX4_writeChild_55 : decode cX4_writeChild 55 = .ok (.iload_n 3, 1) := by decide +kernel
theorem dX4_writeChild_56 : decode cX4_writeChild 56 = .ok (.iadd, 1) := by decide +kernel
theorem dX4_writeChild_57 : decode cX4_writeChild 57 = .ok (.iaload, 1) := by decide +kernel
theorem dX4_writeChild_58 : decode cX4_writeChild 58 = .ok (.invokevirtual 260, 3) := by decide +kernel
theorem dX4_writeChild_61 : decode cX4_writeChild 61 = .ok (.iinc 3 1, 3) := by decide +kernel
theorem dX4_writeChild_64 : decode cX4_writeChild 64 = .ok (.goto (-38), 3) := by decide +kernel
theorem dX4_writeChild_67 : decode cX4_writeChild 67 = .ok (.aload_n 0, 1) := by decide +kernel
theorem dX4_writeChild_68 : decode cX4_writeChild 68 = .ok (.bipush 32, 2) := by decide +kernel
theorem dX4_writeChild_70 : decode cX4_writeChild 70 = .ok (.invokevirtual 260, 3) := by decide +kernel
theorem dX4_writeChild_73 : decode cX4_writeChild 73 = .ok (.aload_n 0, 1) := by decide +kernel
theorem dX4_writeChild_74 : decode cX4_writeChild 74 = .ok (.aload_n 0, 1) := by decide +kernel
theorem dX4_writeChild_75 : decode cX4_writeChild 75 = .ok (.getfield 13, 3) := by decide +kernel
theorem dX4_writeChild_78 : decode cX4_writeChild 78 = .ok (.iload_n 2, 1) := by decide +kernel
theorem dX4_writeChild_79 : decode cX4_writeChild 79 = .ok (.iconst 2, 1) := by decide +kernel
theorem dX4_writeChild_80 : decode cX4_writeChild 80 = .ok (.iadd, 1) := by decide +kernel
theorem dX4_writeChild_81 : decode cX4_writeChild 81 = .ok (.iaload, 1) := by decide +kernel
theorem dX4_writeChild_82 : decode cX4_writeChild 82 = .ok (.invokevirtual 263, 3) := by decide +kernel
theorem dX4_writeChild_85 : decode cX4_writeChild 85 = .ok (.aload_n 0, 1) := by decide +kernel
theorem dX4_writeChild_86 : decode cX4_writeChild 86 = .ok (.iload_n 1, 1) := by decide +kernel
theorem dX4_writeChild_87 : decode cX4_writeChild 87 = .ok (.invokevirtual 233, 3) := by decide +kernel
theorem dX4_writeChild_90 : decode cX4_writeChild 90 = .ok (.ifCond .eq 49, 3) := by decide +kernel
theorem dX4_writeChild_93 : decode cX4_writeChild 93 = .ok (.aload_n 0, 1) := by decide +kernel
theorem dX4_writeChild_94 : decode cX4_writeChild 94 = .ok (.bipush 32, 2) := by decide +kernel
theorem dX4_writeChild_96 : decode cX4_writeChild 96 = .ok (.invokevirtual 260, 3) := by decide +kernel
theorem dX4_writeChild_99 : decode cX4_writeChild 99 = .ok (.aload_n 0, 1) := by decide +kernel
theorem dX4_writeChild_100 : decode cX4_writeChild 100 = .ok (.aload_n 0, 1) := by decide +kernel
theorem dX4_writeChild_101 : decode cX4_writeChild 101 = .ok (.getfield 13, 3) := by decide +kernel
theorem dX4_writeChild_104 : decode cX4_writeChild 104 = .ok (.iload_n 2, 1) := by decide +kernel
theorem dX4_writeChild_105 : decode cX4_writeChild 105 = .ok (.iconst 4, 1) := by decide +kernel
theorem dX4_writeChild_106 : decode cX4_writeChild 106 = .ok (.iadd, 1) := by decide +kernel
theorem dX4_writeChild_107 : decode cX4_writeChild 107 = .ok (.iaload, 1) := by decide +kernel
theorem dX4_writeChild_108 : decode cX4_writeChild 108 = .ok (.bipush 30, 2) := by decide +kernel
theorem dX4_writeChild_110 : decode cX4_writeChild 110 = .ok (.idiv, 1) := by decide +kernel
theorem dX4_writeChild_111 : decode cX4_writeChild 111 = .ok (.iconst 1, 1) := by decide +kernel
theorem dX4_writeChild_112 : decode cX4_writeChild 112 = .ok (.iadd, 1) := by decide +kernel
theorem dX4_writeChild_113 : decode cX4_writeChild 113 = .ok (.invokevirtual 263, 3) := by decide +kernel
theorem dX4_writeChild_116 : decode cX4_writeChild 116 = .ok (.aload_n 0, 1) := by decide +kernel
theorem dX4_writeChild_117 : decode cX4_writeChild 117 = .ok (.bipush 47, 2) := by decide +kernel
theorem dX4_writeChild_119 : decode cX4_writeChild 119 = .ok (.invokevirtual 260, 3) := by decide +kernel
theorem dX4_writeChild_122 : decode cX4_writeChild 122 = .ok (.aload_n 0, 1) := by decide +kernel
theorem dX4_writeChild_123 : decode cX4_writeChild 123 = .ok (.aload_n 0, 1) := by decide +kernel
theorem dX4_writeChild_124 : decode cX4_writeChild 124 = .ok (.getfield 13, 3) := by decide +kernel
theorem dX4_writeChild_127 : decode cX4_writeChild 127 = .ok (.iload_n 2, 1) := by decide +kernel
theorem dX4_writeChild_128 : decode cX4_writeChild 128 = .ok (.iconst 4, 1) := by decide +kernel
theorem dX4_writeChild_129 : decode cX4_writeChild 129 = .ok (.iadd, 1) := by decide +kernel
theorem dX4_writeChild_130 : decode cX4_writeChild 130 = .ok (.iaload, 1) := by decide +kernel
theorem dX4_writeChild_131 : decode cX4_writeChild 131 = .ok (.bipush 30, 2) := by decide +kernel
theorem dX4_writeChild_133 : decode cX4_writeChild 133 = .ok (.irem, 1) := by decide +kernel
theorem dX4_writeChild_134 : decode cX4_writeChild 134 = .ok (.iconst 1, 1) := by decide +kernel
theorem dX4_writeChild_135 : decode cX4_writeChild 135 = .ok (.iadd, 1) := by decide +kernel
theorem dX4_writeChild_136 : decode cX4_writeChild 136 = .ok (.invokevirtual 263, 3) := by decide +kernel
theorem dX4_writeChild_139 : decode cX4_writeChild 139 = .ok (.aload_n 0, 1) := by decide +kernel
theorem dX4_writeChild_140 : decode cX4_writeChild 140 = .ok (.aload_n 0, 1) := by decide +kernel
theorem dX4_writeChild_141 : decode cX4_writeChild 141 = .ok (.getfield 257, 3) := by decide +kernel
theorem dX4_writeChild_144 : decode cX4_writeChild 144 = .ok (.invokevirtual 199, 3) := by decide +kernel
theorem dX4_writeChild_147 : decode cX4_writeChild 147 = .ok (.ireturn, 1) := by decide +kernel
theorem dX4_writeDate_0 : decode cX4_writeDate 0 = .ok (.aload_n 0, 1) := by decide +kernel
theorem dX4_writeDate_1 : decode cX4_writeDate 1 = .ok (.iconst 0, 1) := by decide +kernel
theorem dX4_writeDate_2 : decode cX4_writeDate 2 = .ok (.putfield 257, 3) := by decide +kernel
theorem dX4_writeDate_5 : decode cX4_writeDate 5 = .ok (.aload_n 0, 1) := by decide +kernel
theorem dX4_writeDate_6 : decode cX4_writeDate 6 = .ok (.aload_n 0, 1) := by decide +kernel
theorem dX4_writeDate_7 : decode cX4_writeDate 7 = .ok (.getfield 13, 3) := by decide +kernel
theorem dX4_writeDate_10 : decode cX4_writeDate 10 = .ok (.iconst 1, 1) := by decide +kernel
theorem dX4_writeDate_11 : decode cX4_writeDate 11 = .ok (.iaload, 1) := by decide +kernel
theorem dX4_writeDate_12 : decode cX4_writeDate 12 = .ok (.bipush 30, 2) := by decide +kernel
theorem dX4_writeDate_14 : decode cX4_writeDate 14 = .ok (.irem, 1) := by decide +kernel
theorem dX4_writeDate_15 : decode cX4_writeDate 15 = .ok (.iconst 1, 1) := by decide +kernel
theorem dX4_writeDate_16 : decode cX4_writeDate 16 = .ok (.iadd, 1) := by decide +kernel
theorem dX4_writeDate_17 : decode cX4_writeDate 17 = .ok (.invokevirtual 263, 3) := by decide +kernel
theorem dX4_writeDate_20 : decode cX4_writeDate 20 = .ok (.aload_n 0, 1) := by decide +kernel
theorem dX4_writeDate_21 : decode cX4_writeDate 21 = .ok (.bipush 46, 2) := by decide +kernel
theorem dX4_writeDate_23 : decode cX4_writeDate 23 = .ok (.invokevirtual 260, 3) := by decide +kernel
theorem dX4_writeDate_26 : decode cX4_writeDate 26 = .ok (.aload_n 0, 1) := by decide +kernel
theorem dX4_writeDate_27 : decode cX4_writeDate 27 = .ok (.aload_n 0, 1) := by decide +kernel
theorem dX4_writeDate_28 : decode cX4_writeDate 28 = .ok (.getfield 13, 3) := by decide +kernel
theorem dX4_writeDate_31 : decode cX4_writeDate 31 = .ok (.iconst 1, 1) := by decide +kernel
theorem dX4_writeDate_32 : decode cX4_writeDate 32 = .ok (.iaload, 1) := by decide +kernel
theorem dX4_writeDate_33 : decode cX4_writeDate 33 = .ok (.bipush 30, 2) := by decide +kernel
theorem dX4_writeDate_35 : decode cX4_writeDate 35 = .ok (.idiv, 1) := by decide +kernel
theorem dX4_writeDate_36 : decode cX4_writeDate 36 = .ok (.iconst 1, 1) := by decide +kernel
theorem dX4_writeDate_37 : decode cX4_writeDate 37 = .ok (.iadd, 1) := by decide +kernel
theorem dX4_writeDate_38 : decode cX4_writeDate 38 = .ok (.invokevirtual 263, 3) := by decide +kernel
theorem dX4_writeDate_41 : decode cX4_writeDate 41 = .ok (.aload_n 0, 1) := by decide +kernel
theorem dX4_writeDate_42 : decode cX4_writeDate 42 = .ok (.bipush 46, 2) := by decide +kernel
theorem dX4_writeDate_44 : decode cX4_writeDate 44 = .ok (.invokevirtual 260, 3) := by decide +kernel
theorem dX4_writeDate_47 : decode cX4_writeDate 47 = .ok (.aload_n 0, 1) := by decide +kernel
theorem dX4_writeDate_48 : decode cX4_writeDate 48 = .ok (.aload_n 0, 1) := by decide +kernel
theorem dX4_writeDate_49 : decode cX4_writeDate 49 = .ok (.getfield 13, 3) := by decide +kernel
theorem dX4_writeDate_52 : decode cX4_writeDate 52 = .ok (.iconst 0, 1) := by decide +kernel
theorem dX4_writeDate_53 : decode cX4_writeDate 53 = .ok (.iaload, 1) := by decide +kernel
theorem dX4_writeDate_54 : decode cX4_writeDate 54 = .ok (.invokevirtual 263, 3) := by decide +kernel
theorem dX4_writeDate_57 : decode cX4_writeDate 57 = .ok (.aload_n 0, 1) := by decide +kernel
theorem dX4_writeDate_58 : decode cX4_writeDate 58 = .ok (.aload_n 0, 1) := by decide +kernel
theorem dX4_writeDate_59 : decode cX4_writeDate 59 = .ok (.getfield 257, 3) := by decide +kernel
theorem dX4_writeDate_62 : decode cX4_writeDate 62 = .ok (.invokevirtual 199, 3) := by decide +kernel
theorem dX4_writeDate_65 : decode cX4_writeDate 65 = .ok (.ireturn, 1) := by decide +kernel
theorem dX4_outputByte_0 : decode cX4_outputByte 0 = .ok (.iload_n 1, 1) := by decide +kernel
theorem dX4_outputByte_1 : decode cX4_outputByte 1 = .ok (.iconst 0, 1) := by decide +kernel
theorem dX4_outputByte_2 : decode cX4_outputByte 2 = .ok (.aload_n 0, 1) := by decide +kernel
theorem dX4_outputByte_3 : decode cX4_outputByte 3 = .ok (.getfield 257, 3) := by decide +kernel
theorem dX4_outputByte_6 : decode cX4_outputByte 6 = .ok (.iconst 1, 1) := by decide +kernel
theorem dX4_outputByte_7 : decode cX4_outputByte 7 = .ok (.isub, 1) := by decide +kernel
theorem dX4_outputByte_8 : decode cX4_outputByte 8 = .ok (.invokestatic 67, 3) := by decide +kernel
theorem dX4_outputByte_11 : decode cX4_outputByte 11 = .ok (.ifCond .ne 9, 3) := by decide +kernel
theorem dX4_outputByte_14 : decode cX4_outputByte 14 = .ok (.aload_n 0, 1) := by decide +kernel
theorem dX4_outputByte_15 : decode cX4_outputByte 15 = .ok (.iconst 1, 1) := by decide +kernel
theorem dX4_outputByte_16 : decode cX4_outputByte 16 = .ok (.invokevirtual 193, 3) := by decide +kernel
theorem dX4_outputByte_19 : decode cX4_outputByte 19 = .ok (.ireturn, 1) := by decide +kernel
theorem dX4_outputByte_20 : decode cX4_outputByte 20 = .ok (.aload_n 0, 1) := by decide +kernel
theorem dX4_outputByte_21 : decode cX4_outputByte 21 = .ok (.aload_n 0, 1) := by decide +kernel
theorem dX4_outputByte_22 : decode cX4_outputByte 22 = .ok (.getfield 32, 3) := by decide +kernel
theorem dX4_outputByte_25 : decode cX4_outputByte 25 = .ok (.iload_n 1, 1) := by decide +kernel
theorem dX4_outputByte_26 : decode cX4_outputByte 26 = .ok (.baload, 1) := by decide +kernel
theorem dX4_outputByte_27 : decode cX4_outputByte 27 = .ok (.invokevirtual 199, 3) := by decide +kernel
theorem dX4_outputByte_30 : decode cX4_outputByte 30 = .ok (.ireturn, 1) := by decide +kernel
end
section
theorem dJ9_max_7cf53_0 : decode cJ9_max_7cf53 0 = .ok (.iload_n 0, 1) := by decide +kernel
theorem dJ9_max_7cf53_1 : decode cJ9_max_7cf53 1 = .ok (.iload_n 1, 1) := by decide +kernel
theorem dJ9_max_7cf53_2 : decode cJ9_max_7cf53 2 = .ok (.if_icmp .lt 7, 3) := by decide +kernel
theorem dJ9_max_7cf53_5 : decode cJ9_max_7cf53 5 = .ok (.iload_n 0, 1) := by decide +kernel
theorem dJ9_max_7cf53_6 : decode cJ9_max_7cf53 6 = .ok (.goto 4, 3) := by decide +kernel
theorem dJ9_max_7cf53_9 : decode cJ9_max_7cf53 9 = .ok (.iload_n 1, 1) := by decide +kernel
theorem dJ9_max_7cf53_10 : decode cJ9_max_7cf53 10 = .ok (.ireturn, 1) := by decide +kernel
theorem dJ9_min_7cf53_0 : decode cJ9_min_7cf53 0 = .ok (.iload_n 0, 1) := by decide +kernel
theorem dJ9_min_7cf53_1 : decode cJ9_min_7cf53 1 = .ok (.iload_n 1, 1) := by decide +kernel
theorem dJ9_min_7cf53_2 : decode cJ9_min_7cf53 2 = .ok (.if_icmp .gt 7, 3) := by decide +kernel
theorem dJ9_min_7cf53_5 : decode cJ9_min_7cf53 5 = .ok (.iload_n 0, 1) := by decide +kernel
theorem dJ9_min_7cf53_6 : decode cJ9_min_7cf53 6 = .ok (.goto 4, 3) := by decide +kernel
theorem dJ9_min_7cf53_9 : decode cJ9_min_7cf53 9 = .ok (.iload_n 1, 1) := by decide +kernel
theorem dJ9_min_7cf53_10 : decode cJ9_min_7cf53 10 = .ok (.ireturn, 1) := by decide +kernel
theorem dJ0_length_8abf5_0 : decode cJ0_length_8abf5 0 = .ok (.aload_n 0, 1) := by decide +kernel
theorem dJ0_length_8abf5_1 : decode cJ0_length_8abf5 1 = .ok (.getfield 9, 3) := by decide +kernel
theorem dJ0_length_8abf5_4 : decode cJ0_length_8abf5 4 = .ok (.arraylength, 1) := by decide +kernel
theorem dJ0_length_8abf5_5 : decode cJ0_length_8abf5 5 = .ok (.aload_n 0, 1) := by decide +kernel
theorem dJ0_length_8abf5_6 : decode cJ0_length_8abf5 6 = .ok (.invokevirtual 335, 3) := by decide +kernel
theorem dJ0_length_8abf5_9 : decode cJ0_length_8abf5 9 = .ok (.ishr, 1) := by decide +kernel
theorem dJ0_length_8abf5_10 : decode cJ0_length_8abf5 10 = .ok (.ireturn, 1) := by decide +kernel
theorem dJ0_charAt_5068e_0 : decode cJ0_charAt_5068e 0 = .ok (.aload_n 0, 1) := by decide +kernel
theorem dJ0_charAt_5068e_1 : decode cJ0_charAt_5068e 1 = .ok (.invokevirtual 492, 3) := by decide +kernel
theorem dJ0_charAt_5068e_4 : decode cJ0_charAt_5068e 4 = .ok (.ifCond .eq 12, 3) := by decide +kernel
theorem dJ0_charAt_5068e_7 : decode cJ0_charAt_5068e 7 = .ok (.aload_n 0, 1) := by decide +kernel
theorem dJ0_charAt_5068e_8 : decode cJ0_charAt_5068e 8 = .ok (.getfield 9, 3) := by decide +kernel
theorem dJ0_charAt_5068e_11 : decode cJ0_charAt_5068e 11 = .ok (.iload_n 1, 1) := by decide +kernel
theorem dJ0_charAt_5068e_12 : decode cJ0_charAt_5068e 12 = .ok (.invokestatic 495, 3) := by decide +kernel
theorem dJ0_charAt_5068e_15 : decode cJ0_charAt_5068e 15 = .ok (.ireturn, 1) := by decide +kernel
theorem dJ0_charAt_5068e_16 : decode cJ0_charAt_5068e 16 = .ok (.aload_n 0, 1) := by decide +kernel
theorem dJ0_charAt_5068e_17 : decode cJ0_charAt_5068e 17 = .ok (.getfield 9, 3) := by decide +kernel
theorem dJ0_charAt_5068e_20 : decode cJ0_charAt_5068e 20 = .ok (.iload_n 1, 1) := by decide +kernel
theorem dJ0_charAt_5068e_21 : decode cJ0_charAt_5068e 21 = .ok (.invokestatic 498, 3) := by decide +kernel
theorem dJ0_charAt_5068e_24 : decode cJ0_charAt_5068e 24 = .ok (.ireturn, 1) := by decide +kernel
theorem dJ0_coder_7d493_0 : decode cJ0_coder_7d493 0 = .ok (.getstatic 38, 3) := by decide +kernel
theorem dJ0_coder_7d493_3 : decode cJ0_coder_7d493 3 = .ok (.ifCond .eq 10, 3) := by decide +kernel
theorem dJ0_coder_7d493_6 : decode cJ0_coder_7d493 6 = .ok (.aload_n 0, 1) := by decide +kernel
theorem dJ0_coder_7d493_7 : decode cJ0_coder_7d493 7 = .ok (.getfield 15, 3) := by decide +kernel
theorem dJ0_coder_7d493_10 : decode cJ0_coder_7d493 10 = .ok (.goto 4, 3) := by decide +kernel
theorem dJ0_coder_7d493_13 : decode cJ0_coder_7d493 13 = .ok (.iconst 1, 1) := by decide +kernel
theorem dJ0_coder_7d493_14 : decode cJ0_coder_7d493 14 = .ok (.ireturn, 1) := by decide +kernel
theorem dJ0_isLatin1_aae02_0 : decode cJ0_isLatin1_aae02 0 = .ok (.getstatic 38, 3) := by decide +kernel
theorem dJ0_isLatin1_aae02_3 : decode cJ0_isLatin1_aae02 3 = .ok (.ifCond .eq 14, 3) := by decide +kernel
theorem dJ0_isLatin1_aae02_6 : decode cJ0_isLatin1_aae02 6 = .ok (.aload_n 0, 1) := by decide +kernel
theorem dJ0_isLatin1_aae02_7 : decode cJ0_isLatin1_aae02 7 = .ok (.getfield 15, 3) := by decide +kernel
theorem dJ0_isLatin1_aae02_10 : decode cJ0_isLatin1_aae02 10 = .ok (.ifCond .ne 7, 3) := by decide +kernel
theorem dJ0_isLatin1_aae02_13 : decode cJ0_isLatin1_aae02 13 = .ok (.iconst 1, 1) := by decide +kernel
theorem dJ0_isLatin1_aae02_14 : decode cJ0_isLatin1_aae02 14 = .ok (.goto 4, 3) := by decide +kernel
theorem dJ0_isLatin1_aae02_17 : decode cJ0_isLatin1_aae02 17 = .ok (.iconst 0, 1) := by decide +kernel
theorem dJ0_isLatin1_aae02_18 : decode cJ0_isLatin1_aae02 18 = .ok (.ireturn, 1) := by decide +kernel
theorem dJ0_checkIndex_df160_0 : decode cJ0_checkIndex_df160 0 = .ok (.iload_n 0, 1) := by decide +kernel
theorem dJ0_checkIndex_df160_1 : decode cJ0_checkIndex_df160 1 = .ok (.iload_n 1, 1) := by decide +kernel
theorem dJ0_checkIndex_df160_2 : decode cJ0_checkIndex_df160 2 = .ok (.getstatic 1053, 3) := by decide +kernel
theorem dJ0_checkIndex_df160_5 : decode cJ0_checkIndex_df160 5 = .ok (.invokestatic 1059, 3) := by decide +kernel
theorem dJ0_checkIndex_df160_8 : decode cJ0_checkIndex_df160 8 = .ok (.pop, 1) := by decide +kernel
theorem dJ0_checkIndex_df160_9 : decode cJ0_checkIndex_df160 9 = .ok (.return_, 1) := by decide +kernel
theorem dJ1_charAt_3b067_0 : decode cJ1_charAt_3b067 0 = .ok (.iload_n 1, 1) := by decide +kernel
theorem dJ1_charAt_3b067_1 : decode cJ1_charAt_3b067 1 = .ok (.aload_n 0, 1) := by decide +kernel
theorem dJ1_charAt_3b067_2 : decode cJ1_charAt_3b067 2 = .ok (.arraylength, 1) := by decide +kernel
theorem dJ1_charAt_3b067_3 : decode cJ1_charAt_3b067 3 = .ok (.invokestatic 9, 3) := by decide +kernel
theorem dJ1_charAt_3b067_6 : decode cJ1_charAt_3b067 6 = .ok (.aload_n 0, 1) := by decide +kernel
theorem dJ1_charAt_3b067_7 : decode cJ1_charAt_3b067 7 = .ok (.iload_n 1, 1) := by decide +kernel
theorem dJ1_charAt_3b067_8 : decode cJ1_charAt_3b067 8 = .ok (.baload, 1) := by decide +kernel
theorem dJ1_charAt_3b067_9 : decode cJ1_charAt_3b067 9 = .ok (.sipush 255, 3) := by decide +kernel
theorem dJ1_charAt_3b067_12 : decode cJ1_charAt_3b067 12 = .ok (.iand, 1) := by decide +kernel
theorem dJ1_charAt_3b067_13 : decode cJ1_charAt_3b067 13 = .ok (.i2c, 1) := by decide +kernel
theorem dJ1_charAt_3b067_14 : decode cJ1_charAt_3b067 14 = .ok (.ireturn, 1) := by decide +kernel
theorem dJ2_getChar_3b067_0 : decode cJ2_getChar_3b067 0 = .ok (.getstatic 44, 3) := by decide +kernel
theorem dJ2_getChar_3b067_3 : decode cJ2_getChar_3b067 3 = .ok (.ifCond .ne 25, 3) := by decide +kernel
theorem dJ2_getChar_3b067_6 : decode cJ2_getChar_3b067 6 = .ok (.iload_n 1, 1) := by decide +kernel
theorem dJ2_getChar_3b067_7 : decode cJ2_getChar_3b067 7 = .ok (.ifCond .lt 11, 3) := by decide +kernel
theorem dJ2_getChar_3b067_10 : decode cJ2_getChar_3b067 10 = .ok (.iload_n 1, 1) := by decide +kernel
theorem dJ2_getChar_3b067_11 : decode cJ2_getChar_3b067 11 = .ok (.aload_n 0, 1) := by decide +kernel
theorem dJ2_getChar_3b067_12 : decode cJ2_getChar_3b067 12 = .ok (.invokestatic 48, 3) := by decide +kernel
theorem dJ2_getChar_3b067_15 : decode cJ2_getChar_3b067 15 = .ok (.if_icmp .lt 13, 3) := by decide +kernel
theorem dJ2_getChar_3b067_18 : decode cJ2_getChar_3b067 18 = .ok (.new 52, 3) := by decide +kernel
theorem dJ2_getChar_3b067_21 : decode cJ2_getChar_3b067 21 = .ok (.dup, 1) := by decide +kernel
theorem dJ2_getChar_3b067_22 : decode cJ2_getChar_3b067 22 = .ok (.ldc 54, 2) := by decide +kernel
theorem dJ2_getChar_3b067_24 : decode cJ2_getChar_3b067 24 = .ok (.invokespecial 56, 3) := by decide +kernel
theorem dJ2_getChar_3b067_27 : decode cJ2_getChar_3b067 27 = .ok (.athrow, 1) := by decide +kernel
theorem dJ2_getChar_3b067_28 : decode cJ2_getChar_3b067 28 = .ok (.iload_n 1, 1) := by decide +kernel
theorem dJ2_getChar_3b067_29 : decode cJ2_getChar_3b067 29 = .ok (.iconst 1, 1) := by decide +kernel
theorem dJ2_getChar_3b067_30 : decode cJ2_getChar_3b067 30 = .ok (.ishl, 1) := by decide +kernel
theorem dJ2_getChar_3b067_31 : decode cJ2_getChar_3b067 31 = .ok (.istore_n 1, 1) := by decide +kernel
theorem dJ2_getChar_3b067_32 : decode cJ2_getChar_3b067 32 = .ok (.aload_n 0, 1) := by decide +kernel
theorem dJ2_getChar_3b067_33 : decode cJ2_getChar_3b067 33 = .ok (.iload_n 1, 1) := by decide +kernel
theorem dJ2_getChar_3b067_34 : decode cJ2_getChar_3b067 34 = .ok (.iinc 1 1, 3) := by decide +kernel
theorem dJ2_getChar_3b067_37 : decode cJ2_getChar_3b067 37 = .ok (.baload, 1) := by decide +kernel
theorem dJ2_getChar_3b067_38 : decode cJ2_getChar_3b067 38 = .ok (.sipush 255, 3) := by decide +kernel
theorem dJ2_getChar_3b067_41 : decode cJ2_getChar_3b067 41 = .ok (.iand, 1) := by decide +kernel
theorem dJ2_getChar_3b067_42 : decode cJ2_getChar_3b067 42 = .ok (.getstatic 59, 3) := by decide +kernel
theorem dJ2_getChar_3b067_45 : decode cJ2_getChar_3b067 45 = .ok (.ishl, 1) := by decide +kernel
theorem dJ2_getChar_3b067_46 : decode cJ2_getChar_3b067 46 = .ok (.aload_n 0, 1) := by decide +kernel
theorem dJ2_getChar_3b067_47 : decode cJ2_getChar_3b067 47 = .ok (.iload_n 1, 1) := by decide +kernel
theorem dJ2_getChar_3b067_48 : decode cJ2_getChar_3b067 48 = .ok (.baload, 1) := by decide +kernel
theorem dJ2_getChar_3b067_49 : decode cJ2_getChar_3b067 49 = .ok (.sipush 255, 3) := by decide +kernel
theorem dJ2_getChar_3b067_52 : decode cJ2_getChar_3b067 52 = .ok (.iand, 1) := by decide +kernel
theorem dJ2_getChar_3b067_53 : decode cJ2_getChar_3b067 53 = .ok (.getstatic 63, 3) := by decide +kernel
theorem dJ2_getChar_3b067_56 : decode cJ2_getChar_3b067 56 = .ok (.ishl, 1) := by decide +kernel
theorem dJ2_getChar_3b067_57 : decode cJ2_getChar_3b067 57 = .ok (.ior, 1) := by decide +kernel
theorem dJ2_getChar_3b067_58 : decode cJ2_getChar_3b067 58 = .ok (.i2c, 1) := by decide +kernel
theorem dJ2_getChar_3b067_59 : decode cJ2_getChar_3b067 59 = .ok (.ireturn, 1) := by decide +kernel
theorem dJ2_length_9d52b_0 : decode cJ2_length_9d52b 0 = .ok (.aload_n 0, 1) := by decide +kernel
theorem dJ2_length_9d52b_1 : decode cJ2_length_9d52b 1 = .ok (.arraylength, 1) := by decide +kernel
theorem dJ2_length_9d52b_2 : decode cJ2_length_9d52b 2 = .ok (.iconst 1, 1) := by decide +kernel
theorem dJ2_length_9d52b_3 : decode cJ2_length_9d52b 3 = .ok (.ishr, 1) := by decide +kernel
theorem dJ2_length_9d52b_4 : decode cJ2_length_9d52b 4 = .ok (.ireturn, 1) := by decide +kernel
theorem dJ2_charAt_3b067_0 : decode cJ2_charAt_3b067 0 = .ok (.iload_n 1, 1) := by decide +kernel
theorem dJ2_charAt_3b067_1 : decode cJ2_charAt_3b067 1 = .ok (.aload_n 0, 1) := by decide +kernel
theorem dJ2_charAt_3b067_2 : decode cJ2_charAt_3b067 2 = .ok (.invokestatic 67, 3) := by decide +kernel
theorem dJ2_charAt_3b067_5 : decode cJ2_charAt_3b067 5 = .ok (.aload_n 0, 1) := by decide +kernel
theorem dJ2_charAt_3b067_6 : decode cJ2_charAt_3b067 6 = .ok (.iload_n 1, 1) := by decide +kernel
theorem dJ2_charAt_3b067_7 : decode cJ2_charAt_3b067 7 = .ok (.invokestatic 71, 3) := by decide +kernel
theorem dJ2_charAt_3b067_10 : decode cJ2_charAt_3b067 10 = .ok (.ireturn, 1) := by decide +kernel
theorem dJ2_checkIndex_2214a_0 : decode cJ2_checkIndex_2214a 0 = .ok (.iload_n 0, 1) := by decide +kernel
theorem dJ2_checkIndex_2214a_1 : decode cJ2_checkIndex_2214a 1 = .ok (.aload_n 1, 1) := by decide +kernel
theorem dJ2_checkIndex_2214a_2 : decode cJ2_checkIndex_2214a 2 = .ok (.invokestatic 48, 3) := by decide +kernel
theorem dJ2_checkIndex_2214a_5 : decode cJ2_checkIndex_2214a 5 = .ok (.invokestatic 414, 3) := by decide +kernel
theorem dJ2_checkIndex_2214a_8 : decode cJ2_checkIndex_2214a 8 = .ok (.return_, 1) := by decide +kernel
theorem dJ7_fill_53178_0 : decode cJ7_fill_53178 0 = .ok (.iconst 0, 1) := by decide +kernel
theorem dJ7_fill_53178_1 : decode cJ7_fill_53178 1 = .ok (.istore_n 2, 1) := by decide +kernel
theorem dJ7_fill_53178_2 : decode cJ7_fill_53178 2 = .ok (.aload_n 0, 1) := by decide +kernel
theorem dJ7_fill_53178_3 : decode cJ7_fill_53178 3 = .ok (.arraylength, 1) := by decide +kernel
theorem dJ7_fill_53178_4 : decode cJ7_fill_53178 4 = .ok (.istore_n 3, 1) := by decide +kernel
theorem dJ7_fill_53178_5 : decode cJ7_fill_53178 5 = .ok (.iload_n 2, 1) := by decide +kernel
theorem dJ7_fill_53178_6 : decode cJ7_fill_53178 6 = .ok (.iload_n 3, 1) := by decide +kernel
theorem dJ7_fill_53178_7 : decode cJ7_fill_53178 7 = .ok (.if_icmp .ge 13, 3) := by decide +kernel
theorem dJ7_fill_53178_10 : decode cJ7_fill_53178 10 = .ok (.aload_n 0, 1) := by decide +kernel
theorem dJ7_fill_53178_11 : decode cJ7_fill_53178 11 = .ok (.iload_n 2, 1) := by decide +kernel
theorem dJ7_fill_53178_12 : decode cJ7_fill_53178 12 = .ok (.iload_n 1, 1) := by decide +kernel
theorem dJ7_fill_53178_13 : decode cJ7_fill_53178 13 = .ok (.iastore, 1) := by decide +kernel
theorem dJ7_fill_53178_14 : decode cJ7_fill_53178 14 = .ok (.iinc 2 1, 3) := by decide +kernel
theorem dJ7_fill_53178_17 : decode cJ7_fill_53178 17 = .ok (.goto (-12), 3) := by decide +kernel
theorem dJ7_fill_53178_20 : decode cJ7_fill_53178 20 = .ok (.return_, 1) := by decide +kernel
theorem dJ3_checkIndex_8e157_0 : decode cJ3_checkIndex_8e157 0 = .ok (.iload_n 0, 1) := by decide +kernel
theorem dJ3_checkIndex_8e157_1 : decode cJ3_checkIndex_8e157 1 = .ok (.ifCond .lt 8, 3) := by decide +kernel
theorem dJ3_checkIndex_8e157_4 : decode cJ3_checkIndex_8e157 4 = .ok (.iload_n 0, 1) := by decide +kernel
theorem dJ3_checkIndex_8e157_5 : decode cJ3_checkIndex_8e157 5 = .ok (.iload_n 1, 1) := by decide +kernel
theorem dJ3_checkIndex_8e157_6 : decode cJ3_checkIndex_8e157 6 = .ok (.if_icmp .lt 10, 3) := by decide +kernel
theorem dJ3_checkIndex_8e157_9 : decode cJ3_checkIndex_8e157 9 = .ok (.aload_n 2, 1) := by decide +kernel
theorem dJ3_checkIndex_8e157_10 : decode cJ3_checkIndex_8e157 10 = .ok (.iload_n 0, 1) := by decide +kernel
theorem dJ3_checkIndex_8e157_11 : decode cJ3_checkIndex_8e157 11 = .ok (.iload_n 1, 1) := by decide +kernel
theorem dJ3_checkIndex_8e157_12 : decode cJ3_checkIndex_8e157 12 = .ok (.invokestatic 95, 3) := by decide +kernel
theorem dJ3_checkIndex_8e157_15 : decode cJ3_checkIndex_8e157 15 = .ok (.athrow, 1) := by decide +kernel
theorem dJ3_checkIndex_8e157_16 : decode cJ3_checkIndex_8e157 16 = .ok (.iload_n 0, 1) := by decide +kernel
theorem dJ3_checkIndex_8e157_17 : decode cJ3_checkIndex_8e157 17 = .ok (.ireturn, 1) := by decide +kernel
end
