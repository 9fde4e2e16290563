section
-- ===== PART A: goes FIRST, ahead of the names: the tables' words, and 'selects' of the private methods out of them =====
/-- a private method of a class that the tables say can be made, by its rows of tables_1 -/
def lw_okq (q : MethodName × Nat) : Prop := (q.1.cls ≠ "java/lang/invoke/MethodHandle" ∧ q.1.cls ≠ "java/lang/invoke/VarHandle") ∧ Cond.instantiable q.1.cls q.2 ∈ tables_1 ∧ Cond.privateMethod q.1 ∈ tables_1 ∧ Cond.instanceMethod q.1 ∈ tables_1
theorem lw_p0 : lw_okq (⟨"DrumPeace", "found", "(I)I"⟩, 10) := ⟨⟨by decide +kernel, by decide +kernel⟩, List.mem_of_getElem? (i := 19) (by decide +kernel), List.mem_of_getElem? (i := 255) (by decide +kernel), List.mem_of_getElem? (i := 256) (by decide +kernel)⟩
theorem lw_p1 : lw_okq (⟨"DrumPeace", "fine", "(I)I"⟩, 10) := ⟨⟨by decide +kernel, by decide +kernel⟩, List.mem_of_getElem? (i := 19) (by decide +kernel), List.mem_of_getElem? (i := 264) (by decide +kernel), List.mem_of_getElem? (i := 265) (by decide +kernel)⟩
theorem lw_p2 : lw_okq (⟨"DrumPeace$Tape", "readLaw", "(LDrumPeace$Town;)Z"⟩, 5) := ⟨⟨by decide +kernel, by decide +kernel⟩, List.mem_of_getElem? (i := 51) (by decide +kernel), List.mem_of_getElem? (i := 320) (by decide +kernel), List.mem_of_getElem? (i := 321) (by decide +kernel)⟩
theorem lw_p3 : lw_okq (⟨"DrumPeace$Tape", "readSign", "(I)Z"⟩, 5) := ⟨⟨by decide +kernel, by decide +kernel⟩, List.mem_of_getElem? (i := 51) (by decide +kernel), List.mem_of_getElem? (i := 324) (by decide +kernel), List.mem_of_getElem? (i := 325) (by decide +kernel)⟩
theorem lw_p4 : lw_okq (⟨"DrumPeace$Tape", "fails", "(I)Z"⟩, 5) := ⟨⟨by decide +kernel, by decide +kernel⟩, List.mem_of_getElem? (i := 51) (by decide +kernel), List.mem_of_getElem? (i := 328) (by decide +kernel), List.mem_of_getElem? (i := 329) (by decide +kernel)⟩
theorem lw_p5 : lw_okq (⟨"DrumPeace$Tape", "readNumber", "(I)I"⟩, 5) := ⟨⟨by decide +kernel, by decide +kernel⟩, List.mem_of_getElem? (i := 51) (by decide +kernel), List.mem_of_getElem? (i := 332) (by decide +kernel), List.mem_of_getElem? (i := 333) (by decide +kernel)⟩
theorem lw_p6 : lw_okq (⟨"DrumPeace$Tape", "isFigure", "(I)Z"⟩, 5) := ⟨⟨by decide +kernel, by decide +kernel⟩, List.mem_of_getElem? (i := 51) (by decide +kernel), List.mem_of_getElem? (i := 336) (by decide +kernel), List.mem_of_getElem? (i := 337) (by decide +kernel)⟩
theorem lw_p7 : lw_okq (⟨"DrumPeace$Tape", "readStreets", "(LDrumPeace$Town;)Z"⟩, 5) := ⟨⟨by decide +kernel, by decide +kernel⟩, List.mem_of_getElem? (i := 51) (by decide +kernel), List.mem_of_getElem? (i := 340) (by decide +kernel), List.mem_of_getElem? (i := 341) (by decide +kernel)⟩
theorem lw_p8 : lw_okq (⟨"DrumPeace$Tape", "readStreet", "(LDrumPeace$Town;)Z"⟩, 5) := ⟨⟨by decide +kernel, by decide +kernel⟩, List.mem_of_getElem? (i := 51) (by decide +kernel), List.mem_of_getElem? (i := 344) (by decide +kernel), List.mem_of_getElem? (i := 345) (by decide +kernel)⟩
theorem lw_p9 : lw_okq (⟨"DrumPeace$Tape", "readBeats", "(LDrumPeace$Town;)Z"⟩, 5) := ⟨⟨by decide +kernel, by decide +kernel⟩, List.mem_of_getElem? (i := 51) (by decide +kernel), List.mem_of_getElem? (i := 435) (by decide +kernel), List.mem_of_getElem? (i := 436) (by decide +kernel)⟩
theorem lw_p10 : lw_okq (⟨"DrumPeace$Tape", "readBeat", "(LDrumPeace$Town;)Z"⟩, 5) := ⟨⟨by decide +kernel, by decide +kernel⟩, List.mem_of_getElem? (i := 51) (by decide +kernel), List.mem_of_getElem? (i := 439) (by decide +kernel), List.mem_of_getElem? (i := 440) (by decide +kernel)⟩
theorem lw_p11 : lw_okq (⟨"DrumPeace", "noTown", "()Z"⟩, 10) := ⟨⟨by decide +kernel, by decide +kernel⟩, List.mem_of_getElem? (i := 19) (by decide +kernel), List.mem_of_getElem? (i := 462) (by decide +kernel), List.mem_of_getElem? (i := 463) (by decide +kernel)⟩
theorem lw_p12 : lw_okq (⟨"DrumPeace$Town", "passStreet", "(IZ)V"⟩, 10) := ⟨⟨by decide +kernel, by decide +kernel⟩, List.mem_of_getElem? (i := 76) (by decide +kernel), List.mem_of_getElem? (i := 488) (by decide +kernel), List.mem_of_getElem? (i := 489) (by decide +kernel)⟩
theorem lw_p13 : lw_okq (⟨"DrumPeace$Foresight", "weighPatterns", "(LDrumPeace$Town;II)V"⟩, 9) := ⟨⟨by decide +kernel, by decide +kernel⟩, List.mem_of_getElem? (i := 164) (by decide +kernel), List.mem_of_getElem? (i := 604) (by decide +kernel), List.mem_of_getElem? (i := 605) (by decide +kernel)⟩
theorem lw_p14 : lw_okq (⟨"DrumPeace$Foresight", "gatherHearers", "(LDrumPeace$Town;)V"⟩, 9) := ⟨⟨by decide +kernel, by decide +kernel⟩, List.mem_of_getElem? (i := 164) (by decide +kernel), List.mem_of_getElem? (i := 614) (by decide +kernel), List.mem_of_getElem? (i := 615) (by decide +kernel)⟩
theorem lw_p15 : lw_okq (⟨"DrumPeace$Foresight", "burdenOf", "(III)I"⟩, 9) := ⟨⟨by decide +kernel, by decide +kernel⟩, List.mem_of_getElem? (i := 164) (by decide +kernel), List.mem_of_getElem? (i := 619) (by decide +kernel), List.mem_of_getElem? (i := 620) (by decide +kernel)⟩
def lw_privs_1 : List (MethodName × Nat) := [(⟨"DrumPeace", "found", "(I)I"⟩, 10), (⟨"DrumPeace", "fine", "(I)I"⟩, 10), (⟨"DrumPeace$Tape", "readLaw", "(LDrumPeace$Town;)Z"⟩, 5), (⟨"DrumPeace$Tape", "readSign", "(I)Z"⟩, 5), (⟨"DrumPeace$Tape", "fails", "(I)Z"⟩, 5), (⟨"DrumPeace$Tape", "readNumber", "(I)I"⟩, 5), (⟨"DrumPeace$Tape", "isFigure", "(I)Z"⟩, 5), (⟨"DrumPeace$Tape", "readStreets", "(LDrumPeace$Town;)Z"⟩, 5), (⟨"DrumPeace$Tape", "readStreet", "(LDrumPeace$Town;)Z"⟩, 5), (⟨"DrumPeace$Tape", "readBeats", "(LDrumPeace$Town;)Z"⟩, 5), (⟨"DrumPeace$Tape", "readBeat", "(LDrumPeace$Town;)Z"⟩, 5), (⟨"DrumPeace", "noTown", "()Z"⟩, 10), (⟨"DrumPeace$Town", "passStreet", "(IZ)V"⟩, 10), (⟨"DrumPeace$Foresight", "weighPatterns", "(LDrumPeace$Town;II)V"⟩, 9), (⟨"DrumPeace$Foresight", "gatherHearers", "(LDrumPeace$Town;)V"⟩, 9), (⟨"DrumPeace$Foresight", "burdenOf", "(III)I"⟩, 9)]
theorem lw_r1 : ∀ q ∈ lw_privs_1, lw_okq q := List.forall_mem_cons.mpr ⟨lw_p0, List.forall_mem_cons.mpr ⟨lw_p1, List.forall_mem_cons.mpr ⟨lw_p2, List.forall_mem_cons.mpr ⟨lw_p3, List.forall_mem_cons.mpr ⟨lw_p4, List.forall_mem_cons.mpr ⟨lw_p5, List.forall_mem_cons.mpr ⟨lw_p6, List.forall_mem_cons.mpr ⟨lw_p7, List.forall_mem_cons.mpr ⟨lw_p8, List.forall_mem_cons.mpr ⟨lw_p9, List.forall_mem_cons.mpr ⟨lw_p10, List.forall_mem_cons.mpr ⟨lw_p11, List.forall_mem_cons.mpr ⟨lw_p12, List.forall_mem_cons.mpr ⟨lw_p13, List.forall_mem_cons.mpr ⟨lw_p14, List.forall_mem_cons.mpr ⟨lw_p15, fun _ h => absurd h List.not_mem_nil⟩⟩⟩⟩⟩⟩⟩⟩⟩⟩⟩⟩⟩⟩⟩⟩
theorem lw_p16 : lw_okq (⟨"DrumPeace$Foresight", "robbedIfMoved", "(LDrumPeace$Town;III)I"⟩, 9) := ⟨⟨by decide +kernel, by decide +kernel⟩, List.mem_of_getElem? (i := 164) (by decide +kernel), List.mem_of_getElem? (i := 636) (by decide +kernel), List.mem_of_getElem? (i := 637) (by decide +kernel)⟩
theorem lw_p17 : lw_okq (⟨"DrumPeace$Town", "lootOfAll", "()I"⟩, 10) := ⟨⟨by decide +kernel, by decide +kernel⟩, List.mem_of_getElem? (i := 76) (by decide +kernel), List.mem_of_getElem? (i := 680) (by decide +kernel), List.mem_of_getElem? (i := 681) (by decide +kernel)⟩
theorem lw_p18 : lw_okq (⟨"DrumPeace$Foresight", "suppose", "(III)V"⟩, 9) := ⟨⟨by decide +kernel, by decide +kernel⟩, List.mem_of_getElem? (i := 164) (by decide +kernel), List.mem_of_getElem? (i := 704) (by decide +kernel), List.mem_of_getElem? (i := 705) (by decide +kernel)⟩
theorem lw_p19 : lw_okq (⟨"DrumPeace$Foresight", "sleepsAsTold", "(I)Z"⟩, 9) := ⟨⟨by decide +kernel, by decide +kernel⟩, List.mem_of_getElem? (i := 164) (by decide +kernel), List.mem_of_getElem? (i := 709) (by decide +kernel), List.mem_of_getElem? (i := 710) (by decide +kernel)⟩
theorem lw_p20 : lw_okq (⟨"DrumPeace$Foresight", "takeChances", "(IZII)V"⟩, 9) := ⟨⟨by decide +kernel, by decide +kernel⟩, List.mem_of_getElem? (i := 164) (by decide +kernel), List.mem_of_getElem? (i := 723) (by decide +kernel), List.mem_of_getElem? (i := 724) (by decide +kernel)⟩
theorem lw_p21 : lw_okq (⟨"DrumPeace$Foresight", "applyDraw", "(I)V"⟩, 9) := ⟨⟨by decide +kernel, by decide +kernel⟩, List.mem_of_getElem? (i := 164) (by decide +kernel), List.mem_of_getElem? (i := 744) (by decide +kernel), List.mem_of_getElem? (i := 745) (by decide +kernel)⟩
theorem lw_p22 : lw_okq (⟨"DrumPeace", "keptImage", "(I)LDrumPeace$Town;"⟩, 10) := ⟨⟨by decide +kernel, by decide +kernel⟩, List.mem_of_getElem? (i := 19) (by decide +kernel), List.mem_of_getElem? (i := 752) (by decide +kernel), List.mem_of_getElem? (i := 753) (by decide +kernel)⟩
theorem lw_p23 : lw_okq (⟨"DrumPeace$Asks", "give", "(LDrumPeace$Town;III)I"⟩, 2) := ⟨⟨by decide +kernel, by decide +kernel⟩, List.mem_of_getElem? (i := 201) (by decide +kernel), List.mem_of_getElem? (i := 785) (by decide +kernel), List.mem_of_getElem? (i := 786) (by decide +kernel)⟩
theorem lw_p24 : lw_okq (⟨"DrumPeace$Asks", "leaveTrace", "(I)V"⟩, 2) := ⟨⟨by decide +kernel, by decide +kernel⟩, List.mem_of_getElem? (i := 201) (by decide +kernel), List.mem_of_getElem? (i := 789) (by decide +kernel), List.mem_of_getElem? (i := 790) (by decide +kernel)⟩
theorem lw_p25 : lw_okq (⟨"DrumPeaceModel", "finds", "(I)I"⟩, 17) := ⟨⟨by decide +kernel, by decide +kernel⟩, List.mem_of_getElem? (i := 810) (by decide +kernel), List.mem_of_getElem? (i := 882) (by decide +kernel), List.mem_of_getElem? (i := 883) (by decide +kernel)⟩
theorem lw_p26 : lw_okq (⟨"DrumPeaceModel", "against", "(III)I"⟩, 17) := ⟨⟨by decide +kernel, by decide +kernel⟩, List.mem_of_getElem? (i := 810) (by decide +kernel), List.mem_of_getElem? (i := 891) (by decide +kernel), List.mem_of_getElem? (i := 892) (by decide +kernel)⟩
theorem lw_p27 : lw_okq (⟨"DrumPeaceModel", "takesAll", "()Z"⟩, 17) := ⟨⟨by decide +kernel, by decide +kernel⟩, List.mem_of_getElem? (i := 810) (by decide +kernel), List.mem_of_getElem? (i := 913) (by decide +kernel), List.mem_of_getElem? (i := 914) (by decide +kernel)⟩
theorem lw_p28 : lw_okq (⟨"DrumPeaceModel", "takesLaw", "()Z"⟩, 17) := ⟨⟨by decide +kernel, by decide +kernel⟩, List.mem_of_getElem? (i := 810) (by decide +kernel), List.mem_of_getElem? (i := 917) (by decide +kernel), List.mem_of_getElem? (i := 918) (by decide +kernel)⟩
theorem lw_p29 : lw_okq (⟨"DrumPeaceModel", "takes", "(I)Z"⟩, 17) := ⟨⟨by decide +kernel, by decide +kernel⟩, List.mem_of_getElem? (i := 810) (by decide +kernel), List.mem_of_getElem? (i := 921) (by decide +kernel), List.mem_of_getElem? (i := 922) (by decide +kernel)⟩
theorem lw_p30 : lw_okq (⟨"DrumPeaceModel", "here", "()I"⟩, 17) := ⟨⟨by decide +kernel, by decide +kernel⟩, List.mem_of_getElem? (i := 810) (by decide +kernel), List.mem_of_getElem? (i := 925) (by decide +kernel), List.mem_of_getElem? (i := 926) (by decide +kernel)⟩
theorem lw_p31 : lw_okq (⟨"DrumPeaceModel", "fails", "(II)Z"⟩, 17) := ⟨⟨by decide +kernel, by decide +kernel⟩, List.mem_of_getElem? (i := 810) (by decide +kernel), List.mem_of_getElem? (i := 929) (by decide +kernel), List.mem_of_getElem? (i := 930) (by decide +kernel)⟩
def lw_privs_2 : List (MethodName × Nat) := [(⟨"DrumPeace$Foresight", "robbedIfMoved", "(LDrumPeace$Town;III)I"⟩, 9), (⟨"DrumPeace$Town", "lootOfAll", "()I"⟩, 10), (⟨"DrumPeace$Foresight", "suppose", "(III)V"⟩, 9), (⟨"DrumPeace$Foresight", "sleepsAsTold", "(I)Z"⟩, 9), (⟨"DrumPeace$Foresight", "takeChances", "(IZII)V"⟩, 9), (⟨"DrumPeace$Foresight", "applyDraw", "(I)V"⟩, 9), (⟨"DrumPeace", "keptImage", "(I)LDrumPeace$Town;"⟩, 10), (⟨"DrumPeace$Asks", "give", "(LDrumPeace$Town;III)I"⟩, 2), (⟨"DrumPeace$Asks", "leaveTrace", "(I)V"⟩, 2), (⟨"DrumPeaceModel", "finds", "(I)I"⟩, 17), (⟨"DrumPeaceModel", "against", "(III)I"⟩, 17), (⟨"DrumPeaceModel", "takesAll", "()Z"⟩, 17), (⟨"DrumPeaceModel", "takesLaw", "()Z"⟩, 17), (⟨"DrumPeaceModel", "takes", "(I)Z"⟩, 17), (⟨"DrumPeaceModel", "here", "()I"⟩, 17), (⟨"DrumPeaceModel", "fails", "(II)Z"⟩, 17)]
theorem lw_r2 : ∀ q ∈ lw_privs_2, lw_okq q := List.forall_mem_cons.mpr ⟨lw_p16, List.forall_mem_cons.mpr ⟨lw_p17, List.forall_mem_cons.mpr ⟨lw_p18, List.forall_mem_cons.mpr ⟨lw_p19, List.forall_mem_cons.mpr ⟨lw_p20, List.forall_mem_cons.mpr ⟨lw_p21, List.forall_mem_cons.mpr ⟨lw_p22, List.forall_mem_cons.mpr ⟨lw_p23, List.forall_mem_cons.mpr ⟨lw_p24, List.forall_mem_cons.mpr ⟨lw_p25, List.forall_mem_cons.mpr ⟨lw_p26, List.forall_mem_cons.mpr ⟨lw_p27, List.forall_mem_cons.mpr ⟨lw_p28, List.forall_mem_cons.mpr ⟨lw_p29, List.forall_mem_cons.mpr ⟨lw_p30, List.forall_mem_cons.mpr ⟨lw_p31, fun _ h => absurd h List.not_mem_nil⟩⟩⟩⟩⟩⟩⟩⟩⟩⟩⟩⟩⟩⟩⟩⟩
theorem lw_p32 : lw_okq (⟨"DrumPeaceModel", "takesNumber", "(II)Z"⟩, 17) := ⟨⟨by decide +kernel, by decide +kernel⟩, List.mem_of_getElem? (i := 810) (by decide +kernel), List.mem_of_getElem? (i := 933) (by decide +kernel), List.mem_of_getElem? (i := 934) (by decide +kernel)⟩
theorem lw_p33 : lw_okq (⟨"DrumPeaceModel", "takesStreet", "()Z"⟩, 17) := ⟨⟨by decide +kernel, by decide +kernel⟩, List.mem_of_getElem? (i := 810) (by decide +kernel), List.mem_of_getElem? (i := 939) (by decide +kernel), List.mem_of_getElem? (i := 940) (by decide +kernel)⟩
theorem lw_p34 : lw_okq (⟨"DrumPeaceModel", "takesBeat", "()Z"⟩, 17) := ⟨⟨by decide +kernel, by decide +kernel⟩, List.mem_of_getElem? (i := 810) (by decide +kernel), List.mem_of_getElem? (i := 946) (by decide +kernel), List.mem_of_getElem? (i := 947) (by decide +kernel)⟩
theorem lw_p35 : lw_okq (⟨"DrumPeaceModel", "copyOf", "(II)V"⟩, 17) := ⟨⟨by decide +kernel, by decide +kernel⟩, List.mem_of_getElem? (i := 810) (by decide +kernel), List.mem_of_getElem? (i := 951) (by decide +kernel), List.mem_of_getElem? (i := 952) (by decide +kernel)⟩
theorem lw_p36 : lw_okq (⟨"DrumPeaceModel", "isTown", "()Z"⟩, 17) := ⟨⟨by decide +kernel, by decide +kernel⟩, List.mem_of_getElem? (i := 810) (by decide +kernel), List.mem_of_getElem? (i := 963) (by decide +kernel), List.mem_of_getElem? (i := 964) (by decide +kernel)⟩
theorem lw_p37 : lw_okq (⟨"DrumPeaceModel", "minds", "()V"⟩, 17) := ⟨⟨by decide +kernel, by decide +kernel⟩, List.mem_of_getElem? (i := 810) (by decide +kernel), List.mem_of_getElem? (i := 969) (by decide +kernel), List.mem_of_getElem? (i := 970) (by decide +kernel)⟩
theorem lw_p38 : lw_okq (⟨"DrumPeaceModel", "passes", "(I)V"⟩, 17) := ⟨⟨by decide +kernel, by decide +kernel⟩, List.mem_of_getElem? (i := 810) (by decide +kernel), List.mem_of_getElem? (i := 973) (by decide +kernel), List.mem_of_getElem? (i := 974) (by decide +kernel)⟩
theorem lw_p39 : lw_okq (⟨"DrumPeaceModel", "robbedIn", "(II)I"⟩, 17) := ⟨⟨by decide +kernel, by decide +kernel⟩, List.mem_of_getElem? (i := 810) (by decide +kernel), List.mem_of_getElem? (i := 977) (by decide +kernel), List.mem_of_getElem? (i := 978) (by decide +kernel)⟩
theorem lw_p40 : lw_okq (⟨"DrumPeaceModel", "hears", "(II)Z"⟩, 17) := ⟨⟨by decide +kernel, by decide +kernel⟩, List.mem_of_getElem? (i := 810) (by decide +kernel), List.mem_of_getElem? (i := 981) (by decide +kernel), List.mem_of_getElem? (i := 982) (by decide +kernel)⟩
theorem lw_p41 : lw_okq (⟨"DrumPeaceModel", "awake", "(I)I"⟩, 17) := ⟨⟨by decide +kernel, by decide +kernel⟩, List.mem_of_getElem? (i := 810) (by decide +kernel), List.mem_of_getElem? (i := 995) (by decide +kernel), List.mem_of_getElem? (i := 996) (by decide +kernel)⟩
theorem lw_p42 : lw_okq (⟨"DrumPeaceModel", "isStreet", "(I)Z"⟩, 17) := ⟨⟨by decide +kernel, by decide +kernel⟩, List.mem_of_getElem? (i := 810) (by decide +kernel), List.mem_of_getElem? (i := 1003) (by decide +kernel), List.mem_of_getElem? (i := 1004) (by decide +kernel)⟩
theorem lw_p43 : lw_okq (⟨"DrumPeaceModel", "tries", "()V"⟩, 17) := ⟨⟨by decide +kernel, by decide +kernel⟩, List.mem_of_getElem? (i := 810) (by decide +kernel), List.mem_of_getElem? (i := 1038) (by decide +kernel), List.mem_of_getElem? (i := 1039) (by decide +kernel)⟩
theorem lw_p44 : lw_okq (⟨"DrumPeaceModel", "goesOn", "(I)V"⟩, 17) := ⟨⟨by decide +kernel, by decide +kernel⟩, List.mem_of_getElem? (i := 810) (by decide +kernel), List.mem_of_getElem? (i := 1042) (by decide +kernel), List.mem_of_getElem? (i := 1043) (by decide +kernel)⟩
theorem lw_p45 : lw_okq (⟨"DrumPeaceModel", "allAwake", "(I)I"⟩, 17) := ⟨⟨by decide +kernel, by decide +kernel⟩, List.mem_of_getElem? (i := 810) (by decide +kernel), List.mem_of_getElem? (i := 1054) (by decide +kernel), List.mem_of_getElem? (i := 1055) (by decide +kernel)⟩
theorem lw_p46 : lw_okq (⟨"DrumPeaceModel", "isSo", "(III)Z"⟩, 17) := ⟨⟨by decide +kernel, by decide +kernel⟩, List.mem_of_getElem? (i := 810) (by decide +kernel), List.mem_of_getElem? (i := 1098) (by decide +kernel), List.mem_of_getElem? (i := 1099) (by decide +kernel)⟩
theorem lw_p47 : lw_okq (⟨"DrumPeaceModel", "sizeOf", "(I)I"⟩, 17) := ⟨⟨by decide +kernel, by decide +kernel⟩, List.mem_of_getElem? (i := 810) (by decide +kernel), List.mem_of_getElem? (i := 1139) (by decide +kernel), List.mem_of_getElem? (i := 1140) (by decide +kernel)⟩
def lw_privs_3 : List (MethodName × Nat) := [(⟨"DrumPeaceModel", "takesNumber", "(II)Z"⟩, 17), (⟨"DrumPeaceModel", "takesStreet", "()Z"⟩, 17), (⟨"DrumPeaceModel", "takesBeat", "()Z"⟩, 17), (⟨"DrumPeaceModel", "copyOf", "(II)V"⟩, 17), (⟨"DrumPeaceModel", "isTown", "()Z"⟩, 17), (⟨"DrumPeaceModel", "minds", "()V"⟩, 17), (⟨"DrumPeaceModel", "passes", "(I)V"⟩, 17), (⟨"DrumPeaceModel", "robbedIn", "(II)I"⟩, 17), (⟨"DrumPeaceModel", "hears", "(II)Z"⟩, 17), (⟨"DrumPeaceModel", "awake", "(I)I"⟩, 17), (⟨"DrumPeaceModel", "isStreet", "(I)Z"⟩, 17), (⟨"DrumPeaceModel", "tries", "()V"⟩, 17), (⟨"DrumPeaceModel", "goesOn", "(I)V"⟩, 17), (⟨"DrumPeaceModel", "allAwake", "(I)I"⟩, 17), (⟨"DrumPeaceModel", "isSo", "(III)Z"⟩, 17), (⟨"DrumPeaceModel", "sizeOf", "(I)I"⟩, 17)]
theorem lw_r3 : ∀ q ∈ lw_privs_3, lw_okq q := List.forall_mem_cons.mpr ⟨lw_p32, List.forall_mem_cons.mpr ⟨lw_p33, List.forall_mem_cons.mpr ⟨lw_p34, List.forall_mem_cons.mpr ⟨lw_p35, List.forall_mem_cons.mpr ⟨lw_p36, List.forall_mem_cons.mpr ⟨lw_p37, List.forall_mem_cons.mpr ⟨lw_p38, List.forall_mem_cons.mpr ⟨lw_p39, List.forall_mem_cons.mpr ⟨lw_p40, List.forall_mem_cons.mpr ⟨lw_p41, List.forall_mem_cons.mpr ⟨lw_p42, List.forall_mem_cons.mpr ⟨lw_p43, List.forall_mem_cons.mpr ⟨lw_p44, List.forall_mem_cons.mpr ⟨lw_p45, List.forall_mem_cons.mpr ⟨lw_p46, List.forall_mem_cons.mpr ⟨lw_p47, fun _ h => absurd h List.not_mem_nil⟩⟩⟩⟩⟩⟩⟩⟩⟩⟩⟩⟩⟩⟩⟩⟩
theorem lw_p48 : lw_okq (⟨"DrumPeaceModel", "traces", "(I)V"⟩, 17) := ⟨⟨by decide +kernel, by decide +kernel⟩, List.mem_of_getElem? (i := 810) (by decide +kernel), List.mem_of_getElem? (i := 1143) (by decide +kernel), List.mem_of_getElem? (i := 1144) (by decide +kernel)⟩
theorem lw_p49 : lw_okq (⟨"DrumPeaceModel", "size11", "(I)I"⟩, 17) := ⟨⟨by decide +kernel, by decide +kernel⟩, List.mem_of_getElem? (i := 810) (by decide +kernel), List.mem_of_getElem? (i := 1147) (by decide +kernel), List.mem_of_getElem? (i := 1148) (by decide +kernel)⟩
theorem lw_p50 : lw_okq (⟨"DrumPeaceModel", "size10", "(I)I"⟩, 17) := ⟨⟨by decide +kernel, by decide +kernel⟩, List.mem_of_getElem? (i := 810) (by decide +kernel), List.mem_of_getElem? (i := 1151) (by decide +kernel), List.mem_of_getElem? (i := 1152) (by decide +kernel)⟩
theorem lw_p51 : lw_okq (⟨"DrumPeaceModel", "markOf", "(I)I"⟩, 17) := ⟨⟨by decide +kernel, by decide +kernel⟩, List.mem_of_getElem? (i := 810) (by decide +kernel), List.mem_of_getElem? (i := 1155) (by decide +kernel), List.mem_of_getElem? (i := 1156) (by decide +kernel)⟩
theorem lw_p52 : lw_okq (⟨"DrumPeaceModel", "mark21", "(I)I"⟩, 17) := ⟨⟨by decide +kernel, by decide +kernel⟩, List.mem_of_getElem? (i := 810) (by decide +kernel), List.mem_of_getElem? (i := 1159) (by decide +kernel), List.mem_of_getElem? (i := 1160) (by decide +kernel)⟩
theorem lw_p53 : lw_okq (⟨"DrumPeaceModel", "mark20", "(I)I"⟩, 17) := ⟨⟨by decide +kernel, by decide +kernel⟩, List.mem_of_getElem? (i := 810) (by decide +kernel), List.mem_of_getElem? (i := 1163) (by decide +kernel), List.mem_of_getElem? (i := 1164) (by decide +kernel)⟩
theorem lw_p54 : lw_okq (⟨"DrumPeaceModel", "size13", "(I)I"⟩, 17) := ⟨⟨by decide +kernel, by decide +kernel⟩, List.mem_of_getElem? (i := 810) (by decide +kernel), List.mem_of_getElem? (i := 1167) (by decide +kernel), List.mem_of_getElem? (i := 1168) (by decide +kernel)⟩
theorem lw_p55 : lw_okq (⟨"DrumPeaceModel", "mark23", "(I)I"⟩, 17) := ⟨⟨by decide +kernel, by decide +kernel⟩, List.mem_of_getElem? (i := 810) (by decide +kernel), List.mem_of_getElem? (i := 1171) (by decide +kernel), List.mem_of_getElem? (i := 1172) (by decide +kernel)⟩
theorem lw_p56 : lw_okq (⟨"DrumPeaceModel", "rowsThere", "()I"⟩, 17) := ⟨⟨by decide +kernel, by decide +kernel⟩, List.mem_of_getElem? (i := 810) (by decide +kernel), List.mem_of_getElem? (i := 1183) (by decide +kernel), List.mem_of_getElem? (i := 1184) (by decide +kernel)⟩
def lw_privs_4 : List (MethodName × Nat) := [(⟨"DrumPeaceModel", "traces", "(I)V"⟩, 17), (⟨"DrumPeaceModel", "size11", "(I)I"⟩, 17), (⟨"DrumPeaceModel", "size10", "(I)I"⟩, 17), (⟨"DrumPeaceModel", "markOf", "(I)I"⟩, 17), (⟨"DrumPeaceModel", "mark21", "(I)I"⟩, 17), (⟨"DrumPeaceModel", "mark20", "(I)I"⟩, 17), (⟨"DrumPeaceModel", "size13", "(I)I"⟩, 17), (⟨"DrumPeaceModel", "mark23", "(I)I"⟩, 17), (⟨"DrumPeaceModel", "rowsThere", "()I"⟩, 17)]
theorem lw_r4 : ∀ q ∈ lw_privs_4, lw_okq q := List.forall_mem_cons.mpr ⟨lw_p48, List.forall_mem_cons.mpr ⟨lw_p49, List.forall_mem_cons.mpr ⟨lw_p50, List.forall_mem_cons.mpr ⟨lw_p51, List.forall_mem_cons.mpr ⟨lw_p52, List.forall_mem_cons.mpr ⟨lw_p53, List.forall_mem_cons.mpr ⟨lw_p54, List.forall_mem_cons.mpr ⟨lw_p55, List.forall_mem_cons.mpr ⟨lw_p56, fun _ h => absurd h List.not_mem_nil⟩⟩⟩⟩⟩⟩⟩⟩⟩
def lw_privs : List (MethodName × Nat) := lw_privs_1 ++ (lw_privs_2 ++ (lw_privs_3 ++ (lw_privs_4)))
def lw_tbl : List Cond := k2_sels lw_privs ++ tables_1
theorem lw_privs_ok : ∀ q ∈ lw_privs, lw_okq q := by
  show ∀ q ∈ lw_privs_1 ++ (lw_privs_2 ++ (lw_privs_3 ++ (lw_privs_4))), lw_okq q
  exact List.forall_mem_append.mpr ⟨lw_r1, List.forall_mem_append.mpr ⟨lw_r2, List.forall_mem_append.mpr ⟨lw_r3, lw_r4⟩⟩⟩
end
section
def RX0 : String := "DrumPeace$Acts"
def TX0 : u_T := fun k => match k with
  | 0 => ("DrumPeace$Acts", "before", "[LDrumPeace$Town;", true)
  | 1 => ("DrumPeace$Acts", "next", "I", false)
  | _ => ("DrumPeace$Acts", "kept", "I", false)
def tyX0 : Nat → FieldType := fun k => match k with
  | 0 => .array (.object "DrumPeace$Town")
  | 1 => .int
  | _ => .int
abbrev wsX00 : List Cond := u_ws RX0 TX0 3
theorem nmX0 : ∀ a, a < 3 → ∀ b, b < 3 → a ≠ b → (TX0 a).2.1 ≠ (TX0 b).2.1 := by decide +kernel
theorem tyX0_ok : ∀ k, k < 3 → parseFieldDescriptor (TX0 k).2.2.1 = some (tyX0 k) := by decide +kernel
abbrev cX0_init : ByteArray := prog_2_method_1_code
def yX0_init : MethodName := ⟨RX0, "<init>", "()V"⟩
abbrev cX0_keep : ByteArray := prog_2_method_2_code
def yX0_keep : MethodName := ⟨RX0, "keep", "(LDrumPeace$Town;)V"⟩
abbrev cX0_takeBack : ByteArray := prog_2_method_3_code
def yX0_takeBack : MethodName := ⟨RX0, "takeBack", "(LDrumPeace$Town;)Z"⟩
abbrev cX0_forget : ByteArray := prog_2_method_4_code
def yX0_forget : MethodName := ⟨RX0, "forget", "()V"⟩
def RX1 : String := "DrumPeace$Asks"
def TX1 : u_T := fun k => match k with
  | 0 => ("DrumPeace$Asks", "bodies", "[I", true)
  | _ => ("DrumPeace$Asks", "begun", "I", false)
def tyX1 : Nat → FieldType := fun k => match k with
  | 0 => .array .int
  | _ => .int
abbrev wsX10 : List Cond := u_ws RX1 TX1 2
theorem nmX1 : ∀ a, a < 2 → ∀ b, b < 2 → a ≠ b → (TX1 a).2.1 ≠ (TX1 b).2.1 := by decide +kernel
theorem tyX1_ok : ∀ k, k < 2 → parseFieldDescriptor (TX1 k).2.2.1 = some (tyX1 k) := by decide +kernel
abbrev cX1_init : ByteArray := prog_3_method_1_code
def yX1_init : MethodName := ⟨RX1, "<init>", "()V"⟩
abbrev cX1_isOne : ByteArray := prog_3_method_2_code
def yX1_isOne : MethodName := ⟨RX1, "isOne", "(II)Z"⟩
abbrev cX1_answerOf : ByteArray := prog_3_method_3_code
def yX1_answerOf : MethodName := ⟨RX1, "answerOf", "(LDrumPeace$Town;II)I"⟩
abbrev cX1_give : ByteArray := prog_3_method_4_code
def yX1_give : MethodName := ⟨RX1, "give", "(LDrumPeace$Town;III)I"⟩
abbrev cX1_leaveTrace : ByteArray := prog_3_method_5_code
def yX1_leaveTrace : MethodName := ⟨RX1, "leaveTrace", "(I)V"⟩
def RX2 : String := "DrumPeace$Foresight"
def TX2 : u_T := fun k => match k with
  | 0 => ("DrumPeace$Foresight", "dream", "LDrumPeace$Town;", true)
  | 1 => ("DrumPeace$Foresight", "burdens", "[I", true)
  | 2 => ("DrumPeace$Foresight", "hearers", "[I", true)
  | 3 => ("DrumPeace$Foresight", "chances", "[I", false)
  | 4 => ("DrumPeace$Foresight", "nextChances", "[I", false)
  | 5 => ("DrumPeace$Foresight", "told", "[I", true)
  | 6 => ("DrumPeace$Foresight", "tellings", "I", false)
  | 7 => ("DrumPeace$Foresight", "bestTune", "I", false)
  | _ => ("DrumPeace$Foresight", "leastRobbed", "I", false)
def tyX2 : Nat → FieldType := fun k => match k with
  | 0 => .object "DrumPeace$Town"
  | 1 => .array .int
  | 2 => .array .int
  | 3 => .array .int
  | 4 => .array .int
  | 5 => .array .int
  | 6 => .int
  | 7 => .int
  | _ => .int
abbrev wsX20 : List Cond := u_ws RX2 TX2 9
theorem nmX2 : ∀ a, a < 9 → ∀ b, b < 9 → a ≠ b → (TX2 a).2.1 ≠ (TX2 b).2.1 := by decide +kernel
theorem tyX2_ok : ∀ k, k < 9 → parseFieldDescriptor (TX2 k).2.2.1 = some (tyX2 k) := by decide +kernel
abbrev cX2_init : ByteArray := prog_4_method_1_code
def yX2_init : MethodName := ⟨RX2, "<init>", "()V"⟩
abbrev cX2_townIn : ByteArray := prog_4_method_2_code
def yX2_townIn : MethodName := ⟨RX2, "townIn", "(LDrumPeace$Town;I)LDrumPeace$Town;"⟩
abbrev cX2_hoursUntilAwake : ByteArray := prog_4_method_3_code
def yX2_hoursUntilAwake : MethodName := ⟨RX2, "hoursUntilAwake", "(LDrumPeace$Town;I)I"⟩
abbrev cX2_findTune : ByteArray := prog_4_method_4_code
def yX2_findTune : MethodName := ⟨RX2, "findTune", "(LDrumPeace$Town;II)V"⟩
abbrev cX2_tunedBeat : ByteArray := prog_4_method_5_code
def yX2_tunedBeat : MethodName := ⟨RX2, "tunedBeat", "(III)I"⟩
abbrev cX2_weighPatterns : ByteArray := prog_4_method_6_code
def yX2_weighPatterns : MethodName := ⟨RX2, "weighPatterns", "(LDrumPeace$Town;II)V"⟩
abbrev cX2_burdenOn : ByteArray := prog_4_method_7_code
def yX2_burdenOn : MethodName := ⟨RX2, "burdenOn", "(LDrumPeace$Town;IIII)I"⟩
abbrev cX2_gatherHearers : ByteArray := prog_4_method_8_code
def yX2_gatherHearers : MethodName := ⟨RX2, "gatherHearers", "(LDrumPeace$Town;)V"⟩
abbrev cX2_burdenOf : ByteArray := prog_4_method_9_code
def yX2_burdenOf : MethodName := ⟨RX2, "burdenOf", "(III)I"⟩
abbrev cX2_findShift : ByteArray := prog_4_method_10_code
def yX2_findShift : MethodName := ⟨RX2, "findShift", "(LDrumPeace$Town;I)I"⟩
abbrev cX2_robbedIfMoved : ByteArray := prog_4_method_11_code
def yX2_robbedIfMoved : MethodName := ⟨RX2, "robbedIfMoved", "(LDrumPeace$Town;III)I"⟩
abbrev cX2_fewestPosts : ByteArray := prog_4_method_12_code
def yX2_fewestPosts : MethodName := ⟨RX2, "fewestPosts", "(LDrumPeace$Town;)I"⟩
abbrev cX2_areHeardInAll : ByteArray := prog_4_method_13_code
def yX2_areHeardInAll : MethodName := ⟨RX2, "areHeardInAll", "(LDrumPeace$Town;I)Z"⟩
abbrev cX2_leastReach : ByteArray := prog_4_method_14_code
def yX2_leastReach : MethodName := ⟨RX2, "leastReach", "(LDrumPeace$Town;II)I"⟩
abbrev cX2_tell : ByteArray := prog_4_method_15_code
def yX2_tell : MethodName := ⟨RX2, "tell", "([III)V"⟩
abbrev cX2_guesses : ByteArray := prog_4_method_16_code
def yX2_guesses : MethodName := ⟨RX2, "guesses", "(LDrumPeace$Town;II)I"⟩
abbrev cX2_firstGuess : ByteArray := prog_4_method_17_code
def yX2_firstGuess : MethodName := ⟨RX2, "firstGuess", "(I)I"⟩
abbrev cX2_lastGuess : ByteArray := prog_4_method_18_code
def yX2_lastGuess : MethodName := ⟨RX2, "lastGuess", "(LDrumPeace$Town;I)I"⟩
abbrev cX2_suppose : ByteArray := prog_4_method_19_code
def yX2_suppose : MethodName := ⟨RX2, "suppose", "(III)V"⟩
abbrev cX2_sleepsAsTold : ByteArray := prog_4_method_20_code
def yX2_sleepsAsTold : MethodName := ⟨RX2, "sleepsAsTold", "(I)Z"⟩
abbrev cX2_chancesAwake : ByteArray := prog_4_method_21_code
def yX2_chancesAwake : MethodName := ⟨RX2, "chancesAwake", "(LDrumPeace$Town;III)I"⟩
abbrev cX2_takeChances : ByteArray := prog_4_method_22_code
def yX2_takeChances : MethodName := ⟨RX2, "takeChances", "(IZII)V"⟩
abbrev cX2_chancesInAll : ByteArray := prog_4_method_23_code
def yX2_chancesInAll : MethodName := ⟨RX2, "chancesInAll", "(I)I"⟩
abbrev cX2_commonDivisor : ByteArray := prog_4_method_24_code
def yX2_commonDivisor : MethodName := ⟨RX2, "commonDivisor", "(II)I"⟩
abbrev cX2_townByDraws : ByteArray := prog_4_method_25_code
def yX2_townByDraws : MethodName := ⟨RX2, "townByDraws", "(LDrumPeace$Town;II)LDrumPeace$Town;"⟩
abbrev cX2_applyDraw : ByteArray := prog_4_method_26_code
def yX2_applyDraw : MethodName := ⟨RX2, "applyDraw", "(I)V"⟩
def RX3 : String := "DrumPeace$Rows"
def TX3 : u_T := fun k => match k with
  | 0 => ("DrumPeace$Rows", "items", "[[I", true)
  | 1 => ("DrumPeace$Rows", "lanes", "[I", true)
  | _ => ("DrumPeace$Rows", "lengths", "[I", true)
def tyX3 : Nat → FieldType := fun k => match k with
  | 0 => .array (.array .int)
  | 1 => .array .int
  | _ => .array .int
abbrev wsX30 : List Cond := u_ws RX3 TX3 3
theorem nmX3 : ∀ a, a < 3 → ∀ b, b < 3 → a ≠ b → (TX3 a).2.1 ≠ (TX3 b).2.1 := by decide +kernel
theorem tyX3_ok : ∀ k, k < 3 → parseFieldDescriptor (TX3 k).2.2.1 = some (tyX3 k) := by decide +kernel
abbrev cX3_init : ByteArray := prog_5_method_1_code
def yX3_init : MethodName := ⟨RX3, "<init>", "()V"⟩
abbrev cX3_isRow : ByteArray := prog_5_method_2_code
def yX3_isRow : MethodName := ⟨RX3, "isRow", "(I)Z"⟩
abbrev cX3_isMissing : ByteArray := prog_5_method_3_code
def yX3_isMissing : MethodName := ⟨RX3, "isMissing", "(I)Z"⟩
abbrev cX3_holds : ByteArray := prog_5_method_4_code
def yX3_holds : MethodName := ⟨RX3, "holds", "(III)Z"⟩
abbrev cX3_lay : ByteArray := prog_5_method_5_code
def yX3_lay : MethodName := ⟨RX3, "lay", "(III)V"⟩
abbrev cX3_put : ByteArray := prog_5_method_6_code
def yX3_put : MethodName := ⟨RX3, "put", "(III)I"⟩
abbrev cX3_takeAway : ByteArray := prog_5_method_7_code
def yX3_takeAway : MethodName := ⟨RX3, "takeAway", "(I)I"⟩
abbrev cX3_howMany : ByteArray := prog_5_method_8_code
def yX3_howMany : MethodName := ⟨RX3, "howMany", "()I"⟩
def RX4 : String := "DrumPeace$Tape"
def TX4 : u_T := fun k => match k with
  | 0 => ("DrumPeace$Tape", "bytes", "[I", true)
  | 1 => ("DrumPeace$Tape", "length", "I", false)
  | 2 => ("DrumPeace$Tape", "fault", "I", false)
  | 3 => ("DrumPeace$Tape", "faultPlace", "I", false)
  | _ => ("DrumPeace$Tape", "at", "I", false)
def tyX4 : Nat → FieldType := fun k => match k with
  | 0 => .array .int
  | 1 => .int
  | 2 => .int
  | 3 => .int
  | _ => .int
abbrev wsX40 : List Cond := u_ws RX4 TX4 5
theorem nmX4 : ∀ a, a < 5 → ∀ b, b < 5 → a ≠ b → (TX4 a).2.1 ≠ (TX4 b).2.1 := by decide +kernel
theorem tyX4_ok : ∀ k, k < 5 → parseFieldDescriptor (TX4 k).2.2.1 = some (tyX4 k) := by decide +kernel
abbrev cX4_init : ByteArray := prog_6_method_1_code
def yX4_init : MethodName := ⟨RX4, "<init>", "()V"⟩
abbrev cX4_append : ByteArray := prog_6_method_2_code
def yX4_append : MethodName := ⟨RX4, "append", "(I)Z"⟩
abbrev cX4_readInto : ByteArray := prog_6_method_3_code
def yX4_readInto : MethodName := ⟨RX4, "readInto", "(LDrumPeace$Town;)Z"⟩
abbrev cX4_readLaw : ByteArray := prog_6_method_4_code
def yX4_readLaw : MethodName := ⟨RX4, "readLaw", "(LDrumPeace$Town;)Z"⟩
abbrev cX4_readStreets : ByteArray := prog_6_method_5_code
def yX4_readStreets : MethodName := ⟨RX4, "readStreets", "(LDrumPeace$Town;)Z"⟩
abbrev cX4_readStreet : ByteArray := prog_6_method_6_code
def yX4_readStreet : MethodName := ⟨RX4, "readStreet", "(LDrumPeace$Town;)Z"⟩
abbrev cX4_readBeats : ByteArray := prog_6_method_7_code
def yX4_readBeats : MethodName := ⟨RX4, "readBeats", "(LDrumPeace$Town;)Z"⟩
abbrev cX4_readBeat : ByteArray := prog_6_method_8_code
def yX4_readBeat : MethodName := ⟨RX4, "readBeat", "(LDrumPeace$Town;)Z"⟩
abbrev cX4_readSign : ByteArray := prog_6_method_9_code
def yX4_readSign : MethodName := ⟨RX4, "readSign", "(I)Z"⟩
abbrev cX4_readNumber : ByteArray := prog_6_method_10_code
def yX4_readNumber : MethodName := ⟨RX4, "readNumber", "(I)I"⟩
abbrev cX4_isFigure : ByteArray := prog_6_method_11_code
def yX4_isFigure : MethodName := ⟨RX4, "isFigure", "(I)Z"⟩
abbrev cX4_fails : ByteArray := prog_6_method_12_code
def yX4_fails : MethodName := ⟨RX4, "fails", "(I)Z"⟩
def RX5 : String := "DrumPeace$Town"
def TX5 : u_T := fun k => match k with
  | 0 => ("DrumPeace$Town", "sort", "[I", true)
  | 1 => ("DrumPeace$Town", "deep", "[I", true)
  | 2 => ("DrumPeace$Town", "loot", "[I", true)
  | 3 => ("DrumPeace$Town", "walk", "[I", true)
  | 4 => ("DrumPeace$Town", "streets", "I", false)
  | 5 => ("DrumPeace$Town", "beats", "I", false)
  | 6 => ("DrumPeace$Town", "reach", "I", false)
  | 7 => ("DrumPeace$Town", "thieves", "I", false)
  | 8 => ("DrumPeace$Town", "hour", "I", false)
  | _ => ("DrumPeace$Town", "robbed", "I", false)
def tyX5 : Nat → FieldType := fun k => match k with
  | 0 => .array .int
  | 1 => .array .int
  | 2 => .array .int
  | 3 => .array .int
  | 4 => .int
  | 5 => .int
  | 6 => .int
  | 7 => .int
  | 8 => .int
  | _ => .int
abbrev wsX50 : List Cond := u_ws RX5 TX5 10
theorem nmX5 : ∀ a, a < 10 → ∀ b, b < 10 → a ≠ b → (TX5 a).2.1 ≠ (TX5 b).2.1 := by decide +kernel
theorem tyX5_ok : ∀ k, k < 10 → parseFieldDescriptor (TX5 k).2.2.1 = some (tyX5 k) := by decide +kernel
abbrev cX5_init : ByteArray := prog_7_method_1_code
def yX5_init : MethodName := ⟨RX5, "<init>", "()V"⟩
abbrev cX5_clear : ByteArray := prog_7_method_2_code
def yX5_clear : MethodName := ⟨RX5, "clear", "()V"⟩
abbrev cX5_become : ByteArray := prog_7_method_3_code
def yX5_become : MethodName := ⟨RX5, "become", "(LDrumPeace$Town;)V"⟩
abbrev cX5_hasStreet : ByteArray := prog_7_method_4_code
def yX5_hasStreet : MethodName := ⟨RX5, "hasStreet", "(I)Z"⟩
abbrev cX5_hasBeat : ByteArray := prog_7_method_5_code
def yX5_hasBeat : MethodName := ⟨RX5, "hasBeat", "(I)Z"⟩
abbrev cX5_allStreets : ByteArray := prog_7_method_6_code
def yX5_allStreets : MethodName := ⟨RX5, "allStreets", "()I"⟩
abbrev cX5_beatNow : ByteArray := prog_7_method_7_code
def yX5_beatNow : MethodName := ⟨RX5, "beatNow", "()I"⟩
abbrev cX5_hears : ByteArray := prog_7_method_8_code
def yX5_hears : MethodName := ⟨RX5, "hears", "(I)Z"⟩
abbrev cX5_hearsFrom : ByteArray := prog_7_method_9_code
def yX5_hearsFrom : MethodName := ⟨RX5, "hearsFrom", "(II)Z"⟩
abbrev cX5_awake : ByteArray := prog_7_method_10_code
def yX5_awake : MethodName := ⟨RX5, "awake", "()I"⟩
abbrev cX5_passHour : ByteArray := prog_7_method_11_code
def yX5_passHour : MethodName := ⟨RX5, "passHour", "()V"⟩
abbrev cX5_passHours : ByteArray := prog_7_method_12_code
def yX5_passHours : MethodName := ⟨RX5, "passHours", "(I)V"⟩
abbrev cX5_passHourFor : ByteArray := prog_7_method_13_code
def yX5_passHourFor : MethodName := ⟨RX5, "passHourFor", "(I)V"⟩
abbrev cX5_passStreet : ByteArray := prog_7_method_14_code
def yX5_passStreet : MethodName := ⟨RX5, "passStreet", "(IZ)V"⟩
abbrev cX5_stolen : ByteArray := prog_7_method_15_code
def yX5_stolen : MethodName := ⟨RX5, "stolen", "(IIIZ)I"⟩
abbrev cX5_deepAfter : ByteArray := prog_7_method_16_code
def yX5_deepAfter : MethodName := ⟨RX5, "deepAfter", "(IIZI)I"⟩
abbrev cX5_taxOf : ByteArray := prog_7_method_17_code
def yX5_taxOf : MethodName := ⟨RX5, "taxOf", "(II)I"⟩
abbrev cX5_lootOfAll : ByteArray := prog_7_method_18_code
def yX5_lootOfAll : MethodName := ⟨RX5, "lootOfAll", "()I"⟩
def RX6 : String := "DrumPeace"
def TX6 : u_T := fun k => match k with
  | 0 => ("DrumPeace", "rows", "LDrumPeace$Rows;", true)
  | 1 => ("DrumPeace", "tape", "LDrumPeace$Tape;", true)
  | 2 => ("DrumPeace", "town", "LDrumPeace$Town;", true)
  | 3 => ("DrumPeace", "draft", "LDrumPeace$Town;", true)
  | 4 => ("DrumPeace", "firstImage", "LDrumPeace$Town;", true)
  | 5 => ("DrumPeace", "secondImage", "LDrumPeace$Town;", true)
  | 6 => ("DrumPeace", "acts", "LDrumPeace$Acts;", true)
  | 7 => ("DrumPeace", "foresight", "LDrumPeace$Foresight;", true)
  | 8 => ("DrumPeace", "asks", "LDrumPeace$Asks;", true)
  | _ => ("DrumPeace", "finding", "I", false)
def tyX6 : Nat → FieldType := fun k => match k with
  | 0 => .object "DrumPeace$Rows"
  | 1 => .object "DrumPeace$Tape"
  | 2 => .object "DrumPeace$Town"
  | 3 => .object "DrumPeace$Town"
  | 4 => .object "DrumPeace$Town"
  | 5 => .object "DrumPeace$Town"
  | 6 => .object "DrumPeace$Acts"
  | 7 => .object "DrumPeace$Foresight"
  | 8 => .object "DrumPeace$Asks"
  | _ => .int
abbrev wsX60 : List Cond := u_ws RX6 TX6 10
theorem nmX6 : ∀ a, a < 10 → ∀ b, b < 10 → a ≠ b → (TX6 a).2.1 ≠ (TX6 b).2.1 := by decide +kernel
theorem tyX6_ok : ∀ k, k < 10 → parseFieldDescriptor (TX6 k).2.2.1 = some (tyX6 k) := by decide +kernel
abbrev cX6_init : ByteArray := prog_1_method_1_code
def yX6_init : MethodName := ⟨RX6, "<init>", "()V"⟩
abbrev cX6_row : ByteArray := prog_1_method_2_code
def yX6_row : MethodName := ⟨RX6, "row", "(III)I"⟩
abbrev cX6_set : ByteArray := prog_1_method_3_code
def yX6_set : MethodName := ⟨RX6, "set", "(III)I"⟩
abbrev cX6_copy : ByteArray := prog_1_method_4_code
def yX6_copy : MethodName := ⟨RX6, "copy", "(IIIII)I"⟩
abbrev cX6_drop : ByteArray := prog_1_method_5_code
def yX6_drop : MethodName := ⟨RX6, "drop", "(I)I"⟩
abbrev cX6_feed : ByteArray := prog_1_method_6_code
def yX6_feed : MethodName := ⟨RX6, "feed", "(I)I"⟩
abbrev cX6_town : ByteArray := prog_1_method_7_code
def yX6_town : MethodName := ⟨RX6, "town", "()I"⟩
abbrev cX6_fault : ByteArray := prog_1_method_8_code
def yX6_fault : MethodName := ⟨RX6, "fault", "()I"⟩
abbrev cX6_hours : ByteArray := prog_1_method_9_code
def yX6_hours : MethodName := ⟨RX6, "hours", "(I)I"⟩
abbrev cX6_beat : ByteArray := prog_1_method_10_code
def yX6_beat : MethodName := ⟨RX6, "beat", "(II)I"⟩
abbrev cX6_reach : ByteArray := prog_1_method_11_code
def yX6_reach : MethodName := ⟨RX6, "reach", "(I)I"⟩
abbrev cX6_lull : ByteArray := prog_1_method_12_code
def yX6_lull : MethodName := ⟨RX6, "lull", "(II)I"⟩
abbrev cX6_bring : ByteArray := prog_1_method_13_code
def yX6_bring : MethodName := ⟨RX6, "bring", "(II)I"⟩
abbrev cX6_undo : ByteArray := prog_1_method_14_code
def yX6_undo : MethodName := ⟨RX6, "undo", "()I"⟩
abbrev cX6_street : ByteArray := prog_1_method_15_code
def yX6_street : MethodName := ⟨RX6, "street", "(II)I"⟩
abbrev cX6_round : ByteArray := prog_1_method_16_code
def yX6_round : MethodName := ⟨RX6, "round", "(I)I"⟩
abbrev cX6_ahead : ByteArray := prog_1_method_17_code
def yX6_ahead : MethodName := ⟨RX6, "ahead", "(III)I"⟩
abbrev cX6_later : ByteArray := prog_1_method_18_code
def yX6_later : MethodName := ⟨RX6, "later", "(II)I"⟩
abbrev cX6_wakes : ByteArray := prog_1_method_19_code
def yX6_wakes : MethodName := ⟨RX6, "wakes", "(I)I"⟩
abbrev cX6_alarm : ByteArray := prog_1_method_20_code
def yX6_alarm : MethodName := ⟨RX6, "alarm", "()I"⟩
abbrev cX6_tune : ByteArray := prog_1_method_21_code
def yX6_tune : MethodName := ⟨RX6, "tune", "(III)I"⟩
abbrev cX6_shift : ByteArray := prog_1_method_22_code
def yX6_shift : MethodName := ⟨RX6, "shift", "(II)I"⟩
abbrev cX6_cover : ByteArray := prog_1_method_23_code
def yX6_cover : MethodName := ⟨RX6, "cover", "(I)I"⟩
abbrev cX6_spread : ByteArray := prog_1_method_24_code
def yX6_spread : MethodName := ⟨RX6, "spread", "(II)I"⟩
abbrev cX6_skins : ByteArray := prog_1_method_25_code
def yX6_skins : MethodName := ⟨RX6, "skins", "(II)I"⟩
abbrev cX6_fits : ByteArray := prog_1_method_26_code
def yX6_fits : MethodName := ⟨RX6, "fits", "(IIIII)I"⟩
abbrev cX6_drops : ByteArray := prog_1_method_27_code
def yX6_drops : MethodName := ⟨RX6, "drops", "(IIII)I"⟩
abbrev cX6_drawn : ByteArray := prog_1_method_28_code
def yX6_drawn : MethodName := ⟨RX6, "drawn", "(III)I"⟩
abbrev cX6_image : ByteArray := prog_1_method_29_code
def yX6_image : MethodName := ⟨RX6, "image", "(I)I"⟩
abbrev cX6_restore : ByteArray := prog_1_method_30_code
def yX6_restore : MethodName := ⟨RX6, "restore", "(I)I"⟩
abbrev cX6_kind : ByteArray := prog_1_method_31_code
def yX6_kind : MethodName := ⟨RX6, "kind", "(I)I"⟩
abbrev cX6_as : ByteArray := prog_1_method_32_code
def yX6_as : MethodName := ⟨RX6, "as", "(II)I"⟩
abbrev cX6_ask : ByteArray := prog_1_method_33_code
def yX6_ask : MethodName := ⟨RX6, "ask", "(II)I"⟩
abbrev cX6_trace : ByteArray := prog_1_method_34_code
def yX6_trace : MethodName := ⟨RX6, "trace", "(I)I"⟩
abbrev cX6_count : ByteArray := prog_1_method_35_code
def yX6_count : MethodName := ⟨RX6, "count", "(I)I"⟩
abbrev cX6_status : ByteArray := prog_1_method_36_code
def yX6_status : MethodName := ⟨RX6, "status", "()I"⟩
abbrev cX6_found : ByteArray := prog_1_method_37_code
def yX6_found : MethodName := ⟨RX6, "found", "(I)I"⟩
abbrev cX6_fine : ByteArray := prog_1_method_38_code
def yX6_fine : MethodName := ⟨RX6, "fine", "(I)I"⟩
abbrev cX6_noTown : ByteArray := prog_1_method_39_code
def yX6_noTown : MethodName := ⟨RX6, "noTown", "()Z"⟩
abbrev cX6_keptImage : ByteArray := prog_1_method_40_code
def yX6_keptImage : MethodName := ⟨RX6, "keptImage", "(I)LDrumPeace$Town;"⟩
abbrev cX6_isNoHalf : ByteArray := prog_1_method_41_code
def yX6_isNoHalf : MethodName := ⟨RX6, "isNoHalf", "(I)Z"⟩
abbrev cX6_isNoFarHour : ByteArray := prog_1_method_42_code
def yX6_isNoFarHour : MethodName := ⟨RX6, "isNoFarHour", "(I)Z"⟩
def RX7 : String := "DrumPeaceModel"
def TX7 : u_T := fun k => match k with
  | 0 => ("DrumPeaceModel", "w", "[I", true)
  | 1 => ("DrumPeaceModel", "undoes", "I", false)
  | 2 => ("DrumPeaceModel", "tape", "[I", true)
  | 3 => ("DrumPeaceModel", "taped", "I", false)
  | 4 => ("DrumPeaceModel", "faulty", "I", false)
  | 5 => ("DrumPeaceModel", "status", "I", false)
  | 6 => ("DrumPeaceModel", "many", "[I", true)
  | 7 => ("DrumPeaceModel", "lane", "[I", true)
  | 8 => ("DrumPeaceModel", "items", "[I", true)
  | 9 => ("DrumPeaceModel", "held", "[I", true)
  | 10 => ("DrumPeaceModel", "at", "I", false)
  | 11 => ("DrumPeaceModel", "start", "I", false)
  | 12 => ("DrumPeaceModel", "number", "I", false)
  | 13 => ("DrumPeaceModel", "tuneBest", "[I", true)
  | 14 => ("DrumPeaceModel", "isKept", "[Z", true)
  | 15 => ("DrumPeaceModel", "trace", "[I", true)
  | _ => ("DrumPeaceModel", "traced", "I", false)
def tyX7 : Nat → FieldType := fun k => match k with
  | 0 => .array .int
  | 1 => .int
  | 2 => .array .int
  | 3 => .int
  | 4 => .int
  | 5 => .int
  | 6 => .array .int
  | 7 => .array .int
  | 8 => .array .int
  | 9 => .array .int
  | 10 => .int
  | 11 => .int
  | 12 => .int
  | 13 => .array .int
  | 14 => .array .boolean
  | 15 => .array .int
  | _ => .int
abbrev wsX70 : List Cond := u_ws RX7 TX7 17
theorem nmX7 : ∀ a, a < 17 → ∀ b, b < 17 → a ≠ b → (TX7 a).2.1 ≠ (TX7 b).2.1 := by decide +kernel
theorem tyX7_ok : ∀ k, k < 17 → parseFieldDescriptor (TX7 k).2.2.1 = some (tyX7 k) := by decide +kernel
abbrev cX7_init : ByteArray := prog_9_method_1_code
def yX7_init : MethodName := ⟨RX7, "<init>", "()V"⟩
abbrev cX7_in : ByteArray := prog_9_method_3_code
def yX7_in : MethodName := ⟨RX7, "in", "(JJJ)Z"⟩
abbrev cX7_has : ByteArray := prog_9_method_4_code
def yX7_has : MethodName := ⟨RX7, "has", "(II)Z"⟩
abbrev cX7_ones : ByteArray := prog_9_method_5_code
def yX7_ones : MethodName := ⟨RX7, "ones", "(I)I"⟩
abbrev cX7_copyOf : ByteArray := prog_9_method_6_code
def yX7_copyOf : MethodName := ⟨RX7, "copyOf", "(II)V"⟩
abbrev cX7_isStreet : ByteArray := prog_9_method_7_code
def yX7_isStreet : MethodName := ⟨RX7, "isStreet", "(I)Z"⟩
abbrev cX7_isTown : ByteArray := prog_9_method_8_code
def yX7_isTown : MethodName := ⟨RX7, "isTown", "()Z"⟩
abbrev cX7_isRow : ByteArray := prog_9_method_9_code
def yX7_isRow : MethodName := ⟨RX7, "isRow", "(I)Z"⟩
abbrev cX7_finds : ByteArray := prog_9_method_10_code
def yX7_finds : MethodName := ⟨RX7, "finds", "(I)I"⟩
abbrev cX7_against : ByteArray := prog_9_method_11_code
def yX7_against : MethodName := ⟨RX7, "against", "(III)I"⟩
abbrev cX7_row : ByteArray := prog_9_method_12_code
def yX7_row : MethodName := ⟨RX7, "row", "(III)I"⟩
abbrev cX7_set : ByteArray := prog_9_method_13_code
def yX7_set : MethodName := ⟨RX7, "set", "(III)I"⟩
abbrev cX7_copy : ByteArray := prog_9_method_14_code
def yX7_copy : MethodName := ⟨RX7, "copy", "(IIIII)I"⟩
abbrev cX7_drop : ByteArray := prog_9_method_15_code
def yX7_drop : MethodName := ⟨RX7, "drop", "(I)I"⟩
abbrev cX7_feed : ByteArray := prog_9_method_16_code
def yX7_feed : MethodName := ⟨RX7, "feed", "(I)I"⟩
abbrev cX7_here : ByteArray := prog_9_method_17_code
def yX7_here : MethodName := ⟨RX7, "here", "()I"⟩
abbrev cX7_fails : ByteArray := prog_9_method_18_code
def yX7_fails : MethodName := ⟨RX7, "fails", "(II)Z"⟩
abbrev cX7_takes : ByteArray := prog_9_method_19_code
def yX7_takes : MethodName := ⟨RX7, "takes", "(I)Z"⟩
abbrev cX7_takesNumber : ByteArray := prog_9_method_20_code
def yX7_takesNumber : MethodName := ⟨RX7, "takesNumber", "(II)Z"⟩
abbrev cX7_kindOf : ByteArray := prog_9_method_21_code
def yX7_kindOf : MethodName := ⟨RX7, "kindOf", "(I)I"⟩
abbrev cX7_takesLaw : ByteArray := prog_9_method_22_code
def yX7_takesLaw : MethodName := ⟨RX7, "takesLaw", "()Z"⟩
abbrev cX7_takesStreet : ByteArray := prog_9_method_23_code
def yX7_takesStreet : MethodName := ⟨RX7, "takesStreet", "()Z"⟩
abbrev cX7_takesBeat : ByteArray := prog_9_method_24_code
def yX7_takesBeat : MethodName := ⟨RX7, "takesBeat", "()Z"⟩
abbrev cX7_takesAll : ByteArray := prog_9_method_25_code
def yX7_takesAll : MethodName := ⟨RX7, "takesAll", "()Z"⟩
abbrev cX7_town : ByteArray := prog_9_method_26_code
def yX7_town : MethodName := ⟨RX7, "town", "()I"⟩
abbrev cX7_fault : ByteArray := prog_9_method_27_code
def yX7_fault : MethodName := ⟨RX7, "fault", "()I"⟩
abbrev cX7_gap : ByteArray := prog_9_method_28_code
def yX7_gap : MethodName := ⟨RX7, "gap", "(II)I"⟩
abbrev cX7_hears : ByteArray := prog_9_method_29_code
def yX7_hears : MethodName := ⟨RX7, "hears", "(II)Z"⟩
abbrev cX7_bounded : ByteArray := prog_9_method_30_code
def yX7_bounded : MethodName := ⟨RX7, "bounded", "(I)I"⟩
abbrev cX7_deepBy : ByteArray := prog_9_method_31_code
def yX7_deepBy : MethodName := ⟨RX7, "deepBy", "(IIZI)I"⟩
abbrev cX7_robbedIn : ByteArray := prog_9_method_32_code
def yX7_robbedIn : MethodName := ⟨RX7, "robbedIn", "(II)I"⟩
abbrev cX7_passes : ByteArray := prog_9_method_33_code
def yX7_passes : MethodName := ⟨RX7, "passes", "(I)V"⟩
abbrev cX7_awake : ByteArray := prog_9_method_34_code
def yX7_awake : MethodName := ⟨RX7, "awake", "(I)I"⟩
abbrev cX7_minds : ByteArray := prog_9_method_35_code
def yX7_minds : MethodName := ⟨RX7, "minds", "()V"⟩
abbrev cX7_hours : ByteArray := prog_9_method_36_code
def yX7_hours : MethodName := ⟨RX7, "hours", "(I)I"⟩
abbrev cX7_beat : ByteArray := prog_9_method_37_code
def yX7_beat : MethodName := ⟨RX7, "beat", "(II)I"⟩
abbrev cX7_reach : ByteArray := prog_9_method_38_code
def yX7_reach : MethodName := ⟨RX7, "reach", "(I)I"⟩
abbrev cX7_lull : ByteArray := prog_9_method_39_code
def yX7_lull : MethodName := ⟨RX7, "lull", "(II)I"⟩
abbrev cX7_bring : ByteArray := prog_9_method_40_code
def yX7_bring : MethodName := ⟨RX7, "bring", "(II)I"⟩
abbrev cX7_undo : ByteArray := prog_9_method_41_code
def yX7_undo : MethodName := ⟨RX7, "undo", "()I"⟩
abbrev cX7_street : ByteArray := prog_9_method_42_code
def yX7_street : MethodName := ⟨RX7, "street", "(II)I"⟩
abbrev cX7_round : ByteArray := prog_9_method_43_code
def yX7_round : MethodName := ⟨RX7, "round", "(I)I"⟩
abbrev cX7_tries : ByteArray := prog_9_method_44_code
def yX7_tries : MethodName := ⟨RX7, "tries", "()V"⟩
abbrev cX7_goesOn : ByteArray := prog_9_method_45_code
def yX7_goesOn : MethodName := ⟨RX7, "goesOn", "(I)V"⟩
abbrev cX7_ahead : ByteArray := prog_9_method_46_code
def yX7_ahead : MethodName := ⟨RX7, "ahead", "(III)I"⟩
abbrev cX7_later : ByteArray := prog_9_method_47_code
def yX7_later : MethodName := ⟨RX7, "later", "(II)I"⟩
abbrev cX7_allAwake : ByteArray := prog_9_method_48_code
def yX7_allAwake : MethodName := ⟨RX7, "allAwake", "(I)I"⟩
abbrev cX7_wakes : ByteArray := prog_9_method_49_code
def yX7_wakes : MethodName := ⟨RX7, "wakes", "(I)I"⟩
abbrev cX7_alarm : ByteArray := prog_9_method_50_code
def yX7_alarm : MethodName := ⟨RX7, "alarm", "()I"⟩
abbrev cX7_tune : ByteArray := prog_9_method_51_code
def yX7_tune : MethodName := ⟨RX7, "tune", "(III)I"⟩
abbrev cX7_shift : ByteArray := prog_9_method_52_code
def yX7_shift : MethodName := ⟨RX7, "shift", "(II)I"⟩
abbrev cX7_cover : ByteArray := prog_9_method_53_code
def yX7_cover : MethodName := ⟨RX7, "cover", "(I)I"⟩
abbrev cX7_spread : ByteArray := prog_9_method_54_code
def yX7_spread : MethodName := ⟨RX7, "spread", "(II)I"⟩
abbrev cX7_skins : ByteArray := prog_9_method_55_code
def yX7_skins : MethodName := ⟨RX7, "skins", "(II)I"⟩
abbrev cX7_isSo : ByteArray := prog_9_method_56_code
def yX7_isSo : MethodName := ⟨RX7, "isSo", "(III)Z"⟩
abbrev cX7_fits : ByteArray := prog_9_method_57_code
def yX7_fits : MethodName := ⟨RX7, "fits", "(IIIII)I"⟩
abbrev cX7_drops : ByteArray := prog_9_method_58_code
def yX7_drops : MethodName := ⟨RX7, "drops", "(IIII)I"⟩
abbrev cX7_drawn : ByteArray := prog_9_method_59_code
def yX7_drawn : MethodName := ⟨RX7, "drawn", "(III)I"⟩
abbrev cX7_image : ByteArray := prog_9_method_60_code
def yX7_image : MethodName := ⟨RX7, "image", "(I)I"⟩
abbrev cX7_restore : ByteArray := prog_9_method_61_code
def yX7_restore : MethodName := ⟨RX7, "restore", "(I)I"⟩
abbrev cX7_kind : ByteArray := prog_9_method_62_code
def yX7_kind : MethodName := ⟨RX7, "kind", "(I)I"⟩
abbrev cX7_isA : ByteArray := prog_9_method_63_code
def yX7_isA : MethodName := ⟨RX7, "isA", "(II)Z"⟩
abbrev cX7_as : ByteArray := prog_9_method_64_code
def yX7_as : MethodName := ⟨RX7, "as", "(II)I"⟩
abbrev cX7_traces : ByteArray := prog_9_method_65_code
def yX7_traces : MethodName := ⟨RX7, "traces", "(I)V"⟩
abbrev cX7_size10 : ByteArray := prog_9_method_66_code
def yX7_size10 : MethodName := ⟨RX7, "size10", "(I)I"⟩
abbrev cX7_size11 : ByteArray := prog_9_method_67_code
def yX7_size11 : MethodName := ⟨RX7, "size11", "(I)I"⟩
abbrev cX7_size13 : ByteArray := prog_9_method_68_code
def yX7_size13 : MethodName := ⟨RX7, "size13", "(I)I"⟩
abbrev cX7_sizeOf : ByteArray := prog_9_method_69_code
def yX7_sizeOf : MethodName := ⟨RX7, "sizeOf", "(I)I"⟩
abbrev cX7_mark20 : ByteArray := prog_9_method_70_code
def yX7_mark20 : MethodName := ⟨RX7, "mark20", "(I)I"⟩
abbrev cX7_mark21 : ByteArray := prog_9_method_71_code
def yX7_mark21 : MethodName := ⟨RX7, "mark21", "(I)I"⟩
abbrev cX7_markOf : ByteArray := prog_9_method_72_code
def yX7_markOf : MethodName := ⟨RX7, "markOf", "(I)I"⟩
abbrev cX7_mark23 : ByteArray := prog_9_method_73_code
def yX7_mark23 : MethodName := ⟨RX7, "mark23", "(I)I"⟩
abbrev cX7_ask : ByteArray := prog_9_method_74_code
def yX7_ask : MethodName := ⟨RX7, "ask", "(II)I"⟩
abbrev cX7_trace : ByteArray := prog_9_method_75_code
def yX7_trace : MethodName := ⟨RX7, "trace", "(I)I"⟩
abbrev cX7_rowsThere : ByteArray := prog_9_method_76_code
def yX7_rowsThere : MethodName := ⟨RX7, "rowsThere", "()I"⟩
abbrev cX7_count : ByteArray := prog_9_method_77_code
def yX7_count : MethodName := ⟨RX7, "count", "(I)I"⟩
abbrev cX7_status : ByteArray := prog_9_method_78_code
def yX7_status : MethodName := ⟨RX7, "status", "()I"⟩
def RJ11 : String := "java/lang/Character"
def TJ11 : u_T := fun k => match k with
  | _ => ("", "", "", false)
def tyJ11 : Nat → FieldType := fun k => match k with
  | _ => .int
abbrev wsJ110 : List Cond := u_ws RJ11 TJ11 0
theorem nmJ11 : ∀ a, a < 0 → ∀ b, b < 0 → a ≠ b → (TJ11 a).2.1 ≠ (TJ11 b).2.1 := by decide +kernel
theorem tyJ11_ok : ∀ k, k < 0 → parseFieldDescriptor (TJ11 k).2.2.1 = some (tyJ11 k) := by decide +kernel
abbrev cJ11_isValidCodePoint_9a6ad : ByteArray := prog_10_method_11_code
def yJ11_isValidCodePoint_9a6ad : MethodName := ⟨RJ11, "isValidCodePoint", "(I)Z"⟩
abbrev cJ11_highSurrogate_5068e : ByteArray := prog_10_method_28_code
def yJ11_highSurrogate_5068e : MethodName := ⟨RJ11, "highSurrogate", "(I)C"⟩
abbrev cJ11_lowSurrogate_5068e : ByteArray := prog_10_method_29_code
def yJ11_lowSurrogate_5068e : MethodName := ⟨RJ11, "lowSurrogate", "(I)C"⟩
def RJ6 : String := "java/lang/Integer"
def TJ6 : u_T := fun k => match k with
  | _ => ("", "", "", false)
def tyJ6 : Nat → FieldType := fun k => match k with
  | _ => .int
abbrev wsJ60 : List Cond := u_ws RJ6 TJ6 0
theorem nmJ6 : ∀ a, a < 0 → ∀ b, b < 0 → a ≠ b → (TJ6 a).2.1 ≠ (TJ6 b).2.1 := by decide +kernel
theorem tyJ6_ok : ∀ k, k < 0 → parseFieldDescriptor (TJ6 k).2.2.1 = some (tyJ6 k) := by decide +kernel
abbrev cJ6_bitCount_0f7a4 : ByteArray := prog_11_method_49_code
def yJ6_bitCount_0f7a4 : MethodName := ⟨RJ6, "bitCount", "(I)I"⟩
def RJ9 : String := "java/lang/Math"
def TJ9 : u_T := fun k => match k with
  | _ => ("", "", "", false)
def tyJ9 : Nat → FieldType := fun k => match k with
  | _ => .int
abbrev wsJ90 : List Cond := u_ws RJ9 TJ9 0
theorem nmJ9 : ∀ a, a < 0 → ∀ b, b < 0 → a ≠ b → (TJ9 a).2.1 ≠ (TJ9 b).2.1 := by decide +kernel
theorem tyJ9_ok : ∀ k, k < 0 → parseFieldDescriptor (TJ9 k).2.2.1 = some (tyJ9 k) := by decide +kernel
abbrev cJ9_abs_0f7a4 : ByteArray := prog_12_method_59_code
def yJ9_abs_0f7a4 : MethodName := ⟨RJ9, "abs", "(I)I"⟩
abbrev cJ9_max_7cf53 : ByteArray := prog_12_method_65_code
def yJ9_max_7cf53 : MethodName := ⟨RJ9, "max", "(II)I"⟩
abbrev cJ9_min_7cf53 : ByteArray := prog_12_method_69_code
def yJ9_min_7cf53 : MethodName := ⟨RJ9, "min", "(II)I"⟩
def RJ0 : String := "java/lang/String"
def TJ0 : u_T := fun k => match k with
  | _ => ("", "", "", false)
def tyJ0 : Nat → FieldType := fun k => match k with
  | _ => .int
abbrev wsJ00 : List Cond := u_ws RJ0 TJ0 0
theorem nmJ0 : ∀ a, a < 0 → ∀ b, b < 0 → a ≠ b → (TJ0 a).2.1 ≠ (TJ0 b).2.1 := by decide +kernel
theorem tyJ0_ok : ∀ k, k < 0 → parseFieldDescriptor (TJ0 k).2.2.1 = some (tyJ0 k) := by decide +kernel
abbrev cJ0_length_8abf5 : ByteArray := prog_13_method_54_code
def yJ0_length_8abf5 : MethodName := ⟨RJ0, "length", "()I"⟩
abbrev cJ0_indexOf_0f7a4 : ByteArray := prog_13_method_79_code
def yJ0_indexOf_0f7a4 : MethodName := ⟨RJ0, "indexOf", "(I)I"⟩
abbrev cJ0_indexOf_7cf53 : ByteArray := prog_13_method_80_code
def yJ0_indexOf_7cf53 : MethodName := ⟨RJ0, "indexOf", "(II)I"⟩
abbrev cJ0_coder_7d493 : ByteArray := prog_13_method_152_code
def yJ0_coder_7d493 : MethodName := ⟨RJ0, "coder", "()B"⟩
abbrev cJ0_isLatin1_aae02 : ByteArray := prog_13_method_154_code
def yJ0_isLatin1_aae02 : MethodName := ⟨RJ0, "isLatin1", "()Z"⟩
abbrev cJ0_checkBoundsBeginEnd_23922 : ByteArray := prog_13_method_158_code
def yJ0_checkBoundsBeginEnd_23922 : MethodName := ⟨RJ0, "checkBoundsBeginEnd", "(III)V"⟩
def RJ1 : String := "java/lang/StringLatin1"
def TJ1 : u_T := fun k => match k with
  | _ => ("", "", "", false)
def tyJ1 : Nat → FieldType := fun k => match k with
  | _ => .int
abbrev wsJ10 : List Cond := u_ws RJ1 TJ1 0
theorem nmJ1 : ∀ a, a < 0 → ∀ b, b < 0 → a ≠ b → (TJ1 a).2.1 ≠ (TJ1 b).2.1 := by decide +kernel
theorem tyJ1_ok : ∀ k, k < 0 → parseFieldDescriptor (TJ1 k).2.2.1 = some (tyJ1 k) := by decide +kernel
abbrev cJ1_canEncode_9a6ad : ByteArray := prog_14_method_4_code
def yJ1_canEncode_9a6ad : MethodName := ⟨RJ1, "canEncode", "(I)Z"⟩
abbrev cJ1_indexOf_4cfef : ByteArray := prog_14_method_22_code
def yJ1_indexOf_4cfef : MethodName := ⟨RJ1, "indexOf", "([BIII)I"⟩
abbrev cJ1_indexOfChar_4cfef : ByteArray := prog_14_method_23_code
def yJ1_indexOfChar_4cfef : MethodName := ⟨RJ1, "indexOfChar", "([BIII)I"⟩
def RJ2 : String := "java/lang/StringUTF16"
def TJ2 : u_T := fun k => match k with
  | _ => ("", "", "", false)
def tyJ2 : Nat → FieldType := fun k => match k with
  | _ => .int
abbrev wsJ20 : List Cond := u_ws RJ2 TJ2 0
theorem nmJ2 : ∀ a, a < 0 → ∀ b, b < 0 → a ≠ b → (TJ2 a).2.1 ≠ (TJ2 b).2.1 := by decide +kernel
theorem tyJ2_ok : ∀ k, k < 0 → parseFieldDescriptor (TJ2 k).2.2.1 = some (tyJ2 k) := by decide +kernel
abbrev cJ2_getChar_3b067 : ByteArray := prog_15_method_5_code
def yJ2_getChar_3b067 : MethodName := ⟨RJ2, "getChar", "([BI)C"⟩
abbrev cJ2_length_9d52b : ByteArray := prog_15_method_6_code
def yJ2_length_9d52b : MethodName := ⟨RJ2, "length", "([B)I"⟩
abbrev cJ2_indexOf_4cfef : ByteArray := prog_15_method_40_code
def yJ2_indexOf_4cfef : MethodName := ⟨RJ2, "indexOf", "([BIII)I"⟩
abbrev cJ2_indexOfChar_4cfef : ByteArray := prog_15_method_47_code
def yJ2_indexOfChar_4cfef : MethodName := ⟨RJ2, "indexOfChar", "([BIII)I"⟩
abbrev cJ2_indexOfCharUnsafe_4cfef : ByteArray := prog_15_method_48_code
def yJ2_indexOfCharUnsafe_4cfef : MethodName := ⟨RJ2, "indexOfCharUnsafe", "([BIII)I"⟩
abbrev cJ2_indexOfSupplementary_4cfef : ByteArray := prog_15_method_49_code
def yJ2_indexOfSupplementary_4cfef : MethodName := ⟨RJ2, "indexOfSupplementary", "([BIII)I"⟩
abbrev cJ2_checkBoundsBeginEnd_d044e : ByteArray := prog_15_method_93_code
def yJ2_checkBoundsBeginEnd_d044e : MethodName := ⟨RJ2, "checkBoundsBeginEnd", "(II[B)V"⟩
def RJ10 : String := "java/lang/System"
def TJ10 : u_T := fun k => match k with
  | _ => ("", "", "", false)
def tyJ10 : Nat → FieldType := fun k => match k with
  | _ => .int
abbrev wsJ100 : List Cond := u_ws RJ10 TJ10 0
theorem nmJ10 : ∀ a, a < 0 → ∀ b, b < 0 → a ≠ b → (TJ10 a).2.1 ≠ (TJ10 b).2.1 := by decide +kernel
theorem tyJ10_ok : ∀ k, k < 0 → parseFieldDescriptor (TJ10 k).2.2.1 = some (tyJ10 k) := by decide +kernel
def RJ7 : String := "java/util/Arrays"
def TJ7 : u_T := fun k => match k with
  | _ => ("", "", "", false)
def tyJ7 : Nat → FieldType := fun k => match k with
  | _ => .int
abbrev wsJ70 : List Cond := u_ws RJ7 TJ7 0
theorem nmJ7 : ∀ a, a < 0 → ∀ b, b < 0 → a ≠ b → (TJ7 a).2.1 ≠ (TJ7 b).2.1 := by decide +kernel
theorem tyJ7_ok : ∀ k, k < 0 → parseFieldDescriptor (TJ7 k).2.2.1 = some (tyJ7 k) := by decide +kernel
abbrev cJ7_fill_53178 : ByteArray := prog_17_method_103_code
def yJ7_fill_53178 : MethodName := ⟨RJ7, "fill", "([II)V"⟩
def RJ3 : String := "jdk/internal/util/Preconditions"
def TJ3 : u_T := fun k => match k with
  | _ => ("", "", "", false)
def tyJ3 : Nat → FieldType := fun k => match k with
  | _ => .int
abbrev wsJ30 : List Cond := u_ws RJ3 TJ3 0
theorem nmJ3 : ∀ a, a < 0 → ∀ b, b < 0 → a ≠ b → (TJ3 a).2.1 ≠ (TJ3 b).2.1 := by decide +kernel
theorem tyJ3_ok : ∀ k, k < 0 → parseFieldDescriptor (TJ3 k).2.2.1 = some (tyJ3 k) := by decide +kernel
abbrev cJ3_checkFromToIndex_8c36e : ByteArray := prog_18_method_12_code
def yJ3_checkFromToIndex_8c36e : MethodName := ⟨RJ3, "checkFromToIndex", "(IIILjava/util/function/BiFunction;)I"⟩
def RL : String := "DrumPeaceLaw"
abbrev cL_law : ByteArray := code
def yL_law : MethodName := ⟨RL, "law", "([I)Z"⟩
abbrev vwCl : List vw_C := [(RX0, TX0, 3), (RX1, TX1, 2), (RX2, TX2, 9), (RX3, TX3, 3), (RX4, TX4, 5), (RX5, TX5, 10), (RX6, TX6, 10), (RX7, TX7, 17)]
end
section
theorem dX0_init_0 : decode cX0_init 0 = .ok (.aload_n 0, 1) := by decide +kernel
theorem dX0_init_1 : decode cX0_init 1 = .ok (.invokespecial 1, 3) := by decide +kernel
theorem dX0_init_4 : decode cX0_init 4 = .ok (.aload_n 0, 1) := by decide +kernel
theorem dX0_init_5 : decode cX0_init 5 = .ok (.bipush 24, 2) := by decide +kernel
theorem dX0_init_7 : decode cX0_init 7 = .ok (.anewarray 9, 3) := by decide +kernel
theorem dX0_init_10 : decode cX0_init 10 = .ok (.putfield 11, 3) := by decide +kernel
theorem dX0_init_13 : decode cX0_init 13 = .ok (.iconst 0, 1) := by decide +kernel
theorem dX0_init_14 : decode cX0_init 14 = .ok (.istore_n 1, 1) := by decide +kernel
theorem dX0_init_15 : decode cX0_init 15 = .ok (.iload_n 1, 1) := by decide +kernel
theorem dX0_init_16 : decode cX0_init 16 = .ok (.bipush 24, 2) := by decide +kernel
theorem dX0_init_18 : decode cX0_init 18 = .ok (.if_icmp .ge 22, 3) := by decide +kernel
theorem dX0_init_21 : decode cX0_init 21 = .ok (.aload_n 0, 1) := by decide +kernel
theorem dX0_init_22 : decode cX0_init 22 = .ok (.getfield 11, 3) := by decide +kernel
theorem dX0_init_25 : decode cX0_init 25 = .ok (.iload_n 1, 1) := by decide +kernel
theorem dX0_init_26 : decode cX0_init 26 = .ok (.new 9, 3) := by decide +kernel
theorem dX0_init_29 : decode cX0_init 29 = .ok (.dup, 1) := by decide +kernel
theorem dX0_init_30 : decode cX0_init 30 = .ok (.invokespecial 15, 3) := by decide +kernel
theorem dX0_init_33 : decode cX0_init 33 = .ok (.aastore, 1) := by decide +kernel
theorem dX0_init_34 : decode cX0_init 34 = .ok (.iinc 1 1, 3) := by decide +kernel
theorem dX0_init_37 : decode cX0_init 37 = .ok (.goto (-22), 3) := by decide +kernel
theorem dX0_init_40 : decode cX0_init 40 = .ok (.return_, 1) := by decide +kernel
theorem dX0_keep_0 : decode cX0_keep 0 = .ok (.aload_n 0, 1) := by decide +kernel
theorem dX0_keep_1 : decode cX0_keep 1 = .ok (.getfield 11, 3) := by decide +kernel
theorem dX0_keep_4 : decode cX0_keep 4 = .ok (.aload_n 0, 1) := by decide +kernel
theorem dX0_keep_5 : decode cX0_keep 5 = .ok (.getfield 16, 3) := by decide +kernel
theorem dX0_keep_8 : decode cX0_keep 8 = .ok (.aaload, 1) := by decide +kernel
theorem dX0_keep_9 : decode cX0_keep 9 = .ok (.aload_n 1, 1) := by decide +kernel
theorem dX0_keep_10 : decode cX0_keep 10 = .ok (.invokevirtual 20, 3) := by decide +kernel
theorem dX0_keep_13 : decode cX0_keep 13 = .ok (.aload_n 0, 1) := by decide +kernel
theorem dX0_keep_14 : decode cX0_keep 14 = .ok (.aload_n 0, 1) := by decide +kernel
theorem dX0_keep_15 : decode cX0_keep 15 = .ok (.getfield 16, 3) := by decide +kernel
theorem dX0_keep_18 : decode cX0_keep 18 = .ok (.iconst 1, 1) := by decide +kernel
theorem dX0_keep_19 : decode cX0_keep 19 = .ok (.iadd, 1) := by decide +kernel
theorem dX0_keep_20 : decode cX0_keep 20 = .ok (.bipush 24, 2) := by decide +kernel
theorem dX0_keep_22 : decode cX0_keep 22 = .ok (.irem, 1) := by decide +kernel
theorem dX0_keep_23 : decode cX0_keep 23 = .ok (.putfield 16, 3) := by decide +kernel
theorem dX0_keep_26 : decode cX0_keep 26 = .ok (.aload_n 0, 1) := by decide +kernel
theorem dX0_keep_27 : decode cX0_keep 27 = .ok (.aload_n 0, 1) := by decide +kernel
theorem dX0_keep_28 : decode cX0_keep 28 = .ok (.getfield 24, 3) := by decide +kernel
theorem dX0_keep_31 : decode cX0_keep 31 = .ok (.iconst 1, 1) := by decide +kernel
theorem dX0_keep_32 : decode cX0_keep 32 = .ok (.iadd, 1) := by decide +kernel
theorem dX0_keep_33 : decode cX0_keep 33 = .ok (.bipush 24, 2) := by decide +kernel
theorem dX0_keep_35 : decode cX0_keep 35 = .ok (.invokestatic 27, 3) := by decide +kernel
theorem dX0_keep_38 : decode cX0_keep 38 = .ok (.putfield 24, 3) := by decide +kernel
theorem dX0_keep_41 : decode cX0_keep 41 = .ok (.return_, 1) := by decide +kernel
theorem dX0_takeBack_0 : decode cX0_takeBack 0 = .ok (.aload_n 0, 1) := by decide +kernel
theorem dX0_takeBack_1 : decode cX0_takeBack 1 = .ok (.getfield 24, 3) := by decide +kernel
theorem dX0_takeBack_4 : decode cX0_takeBack 4 = .ok (.ifCond .ne 5, 3) := by decide +kernel
theorem dX0_takeBack_7 : decode cX0_takeBack 7 = .ok (.iconst 0, 1) := by decide +kernel
theorem dX0_takeBack_8 : decode cX0_takeBack 8 = .ok (.ireturn, 1) := by decide +kernel
theorem dX0_takeBack_9 : decode cX0_takeBack 9 = .ok (.aload_n 0, 1) := by decide +kernel
theorem dX0_takeBack_10 : decode cX0_takeBack 10 = .ok (.aload_n 0, 1) := by decide +kernel
theorem dX0_takeBack_11 : decode cX0_takeBack 11 = .ok (.getfield 16, 3) := by decide +kernel
theorem dX0_takeBack_14 : decode cX0_takeBack 14 = .ok (.bipush 24, 2) := by decide +kernel
theorem dX0_takeBack_16 : decode cX0_takeBack 16 = .ok (.iadd, 1) := by decide +kernel
theorem dX0_takeBack_17 : decode cX0_takeBack 17 = .ok (.iconst 1, 1) := by decide +kernel
theorem dX0_takeBack_18 : decode cX0_takeBack 18 = .ok (.isub, 1) := by decide +kernel
theorem dX0_takeBack_19 : decode cX0_takeBack 19 = .ok (.bipush 24, 2) := by decide +kernel
theorem dX0_takeBack_21 : decode cX0_takeBack 21 = .ok (.irem, 1) := by decide +kernel
theorem dX0_takeBack_22 : decode cX0_takeBack 22 = .ok (.putfield 16, 3) := by decide +kernel
theorem dX0_takeBack_25 : decode cX0_takeBack 25 = .ok (.aload_n 0, 1) := by decide +kernel
theorem dX0_takeBack_26 : decode cX0_takeBack 26 = .ok (.dup, 1) := by decide +kernel
theorem dX0_takeBack_27 : decode cX0_takeBack 27 = .ok (.getfield 24, 3) := by decide +kernel
theorem dX0_takeBack_30 : decode cX0_takeBack 30 = .ok (.iconst 1, 1) := by decide +kernel
theorem dX0_takeBack_31 : decode cX0_takeBack 31 = .ok (.isub, 1) := by decide +kernel
theorem dX0_takeBack_32 : decode cX0_takeBack 32 = .ok (.putfield 24, 3) := by decide +kernel
theorem dX0_takeBack_35 : decode cX0_takeBack 35 = .ok (.aload_n 1, 1) := by decide +kernel
theorem dX0_takeBack_36 : decode cX0_takeBack 36 = .ok (.aload_n 0, 1) := by decide +kernel
theorem dX0_takeBack_37 : decode cX0_takeBack 37 = .ok (.getfield 11, 3) := by decide +kernel
theorem dX0_takeBack_40 : decode cX0_takeBack 40 = .ok (.aload_n 0, 1) := by decide +kernel
theorem dX0_takeBack_41 : decode cX0_takeBack 41 = .ok (.getfield 16, 3) := by decide +kernel
theorem dX0_takeBack_44 : decode cX0_takeBack 44 = .ok (.aaload, 1) := by decide +kernel
theorem dX0_takeBack_45 : decode cX0_takeBack 45 = .ok (.invokevirtual 20, 3) := by decide +kernel
theorem dX0_takeBack_48 : decode cX0_takeBack 48 = .ok (.iconst 1, 1) := by decide +kernel
theorem dX0_takeBack_49 : decode cX0_takeBack 49 = .ok (.ireturn, 1) := by decide +kernel
theorem dX0_forget_0 : decode cX0_forget 0 = .ok (.aload_n 0, 1) := by decide +kernel
theorem dX0_forget_1 : decode cX0_forget 1 = .ok (.iconst 0, 1) := by decide +kernel
theorem dX0_forget_2 : decode cX0_forget 2 = .ok (.putfield 24, 3) := by decide +kernel
theorem dX0_forget_5 : decode cX0_forget 5 = .ok (.return_, 1) := by decide +kernel
theorem dX1_init_0 : decode cX1_init 0 = .ok (.aload_n 0, 1) := by decide +kernel
theorem dX1_init_1 : decode cX1_init 1 = .ok (.invokespecial 1, 3) := by decide +kernel
theorem dX1_init_4 : decode cX1_init 4 = .ok (.aload_n 0, 1) := by decide +kernel
theorem dX1_init_5 : decode cX1_init 5 = .ok (.bipush 16, 2) := by decide +kernel
theorem dX1_init_7 : decode cX1_init 7 = .ok (.newarray .int, 2) := by decide +kernel
theorem dX1_init_9 : decode cX1_init 9 = .ok (.putfield 9, 3) := by decide +kernel
theorem dX1_init_12 : decode cX1_init 12 = .ok (.return_, 1) := by decide +kernel
theorem dX1_isOne_0 : decode cX1_isOne 0 = .ok (.getstatic 13, 3) := by decide +kernel
theorem dX1_isOne_3 : decode cX1_isOne 3 = .ok (.iload_n 0, 1) := by decide +kernel
theorem dX1_isOne_4 : decode cX1_isOne 4 = .ok (.iaload, 1) := by decide +kernel
theorem dX1_isOne_5 : decode cX1_isOne 5 = .ok (.iload_n 1, 1) := by decide +kernel
theorem dX1_isOne_6 : decode cX1_isOne 6 = .ok (.ishr, 1) := by decide +kernel
theorem dX1_isOne_7 : decode cX1_isOne 7 = .ok (.iconst 1, 1) := by decide +kernel
theorem dX1_isOne_8 : decode cX1_isOne 8 = .ok (.iand, 1) := by decide +kernel
theorem dX1_isOne_9 : decode cX1_isOne 9 = .ok (.iconst 1, 1) := by decide +kernel
theorem dX1_isOne_10 : decode cX1_isOne 10 = .ok (.if_icmp .ne 7, 3) := by decide +kernel
theorem dX1_isOne_13 : decode cX1_isOne 13 = .ok (.iconst 1, 1) := by decide +kernel
theorem dX1_isOne_14 : decode cX1_isOne 14 = .ok (.goto 4, 3) := by decide +kernel
theorem dX1_isOne_17 : decode cX1_isOne 17 = .ok (.iconst 0, 1) := by decide +kernel
theorem dX1_isOne_18 : decode cX1_isOne 18 = .ok (.ireturn, 1) := by decide +kernel
theorem dX1_answerOf_0 : decode cX1_answerOf 0 = .ok (.aload_n 0, 1) := by decide +kernel
theorem dX1_answerOf_1 : decode cX1_answerOf 1 = .ok (.iconst 0, 1) := by decide +kernel
theorem dX1_answerOf_2 : decode cX1_answerOf 2 = .ok (.putfield 16, 3) := by decide +kernel
theorem dX1_answerOf_5 : decode cX1_answerOf 5 = .ok (.aload_n 1, 1) := by decide +kernel
theorem dX1_answerOf_6 : decode cX1_answerOf 6 = .ok (.getfield 20, 3) := by decide +kernel
theorem dX1_answerOf_9 : decode cX1_answerOf 9 = .ok (.iload_n 2, 1) := by decide +kernel
theorem dX1_answerOf_10 : decode cX1_answerOf 10 = .ok (.iaload, 1) := by decide +kernel
theorem dX1_answerOf_11 : decode cX1_answerOf 11 = .ok (.istore 4, 2) := by decide +kernel
theorem dX1_answerOf_13 : decode cX1_answerOf 13 = .ok (.aload_n 0, 1) := by decide +kernel
theorem dX1_answerOf_14 : decode cX1_answerOf 14 = .ok (.aload_n 1, 1) := by decide +kernel
theorem dX1_answerOf_15 : decode cX1_answerOf 15 = .ok (.iload_n 2, 1) := by decide +kernel
theorem dX1_answerOf_16 : decode cX1_answerOf 16 = .ok (.iload_n 3, 1) := by decide +kernel
theorem dX1_answerOf_17 : decode cX1_answerOf 17 = .ok (.ifCond .ne 12, 3) := by decide +kernel
theorem dX1_answerOf_20 : decode cX1_answerOf 20 = .ok (.getstatic 25, 3) := by decide +kernel
theorem dX1_answerOf_23 : decode cX1_answerOf 23 = .ok (.iload 4, 2) := by decide +kernel
theorem dX1_answerOf_25 : decode cX1_answerOf 25 = .ok (.iaload, 1) := by decide +kernel
theorem dX1_answerOf_26 : decode cX1_answerOf 26 = .ok (.goto 9, 3) := by decide +kernel
theorem dX1_answerOf_29 : decode cX1_answerOf 29 = .ok (.getstatic 28, 3) := by decide +kernel
theorem dX1_answerOf_32 : decode cX1_answerOf 32 = .ok (.iload 4, 2) := by decide +kernel
theorem dX1_answerOf_34 : decode cX1_answerOf 34 = .ok (.iaload, 1) := by decide +kernel
theorem dX1_answerOf_35 : decode cX1_answerOf 35 = .ok (.iconst 0, 1) := by decide +kernel
theorem dX1_answerOf_36 : decode cX1_answerOf 36 = .ok (.invokevirtual 31, 3) := by decide +kernel
theorem dX1_answerOf_39 : decode cX1_answerOf 39 = .ok (.ireturn, 1) := by decide +kernel
theorem dX1_give_0 : decode cX1_give 0 = .ok (.iload 4, 2) := by decide +kernel
theorem dX1_give_2 : decode cX1_give 2 = .ok (.bipush 8, 2) := by decide +kernel
theorem dX1_give_4 : decode cX1_give 4 = .ok (.if_icmp .le 5, 3) := by decide +kernel
theorem dX1_give_7 : decode cX1_give 7 = .ok (.iconst 0, 1) := by decide +kernel
theorem dX1_give_8 : decode cX1_give 8 = .ok (.ireturn, 1) := by decide +kernel
theorem dX1_give_9 : decode cX1_give 9 = .ok (.aload_n 0, 1) := by decide +kernel
theorem dX1_give_10 : decode cX1_give 10 = .ok (.iload_n 3, 1) := by decide +kernel
theorem dX1_give_11 : decode cX1_give 11 = .ok (.invokevirtual 35, 3) := by decide +kernel
theorem dX1_give_14 : decode cX1_give 14 = .ok (.aload_n 1, 1) := by decide +kernel
theorem dX1_give_15 : decode cX1_give 15 = .ok (.getfield 20, 3) := by decide +kernel
theorem dX1_give_18 : decode cX1_give 18 = .ok (.iload_n 2, 1) := by decide +kernel
theorem dX1_give_19 : decode cX1_give 19 = .ok (.iaload, 1) := by decide +kernel
theorem dX1_give_20 : decode cX1_give 20 = .ok (.istore 5, 2) := by decide +kernel
theorem dX1_give_22 : decode cX1_give 22 = .ok (.iload_n 3, 1) := by decide +kernel
theorem dX1_give_23 : decode cX1_give 23 = .ok (.tableswitch 239 10 24 #[73, 80, 110, 124, 140, 239, 239, 239, 239, 239, 155, 157, 177, 194, 224], 73) := by decide +kernel
theorem dX1_give_96 : decode cX1_give 96 = .ok (.aload_n 1, 1) := by decide +kernel
theorem dX1_give_97 : decode cX1_give 97 = .ok (.getfield 39, 3) := by decide +kernel
theorem dX1_give_100 : decode cX1_give 100 = .ok (.iload_n 2, 1) := by decide +kernel
theorem dX1_give_101 : decode cX1_give 101 = .ok (.iaload, 1) := by decide +kernel
theorem dX1_give_102 : decode cX1_give 102 = .ok (.ireturn, 1) := by decide +kernel
theorem dX1_give_103 : decode cX1_give 103 = .ok (.aload_n 0, 1) := by decide +kernel
theorem dX1_give_104 : decode cX1_give 104 = .ok (.aload_n 1, 1) := by decide +kernel
theorem dX1_give_105 : decode cX1_give 105 = .ok (.iload_n 2, 1) := by decide +kernel
theorem dX1_give_106 : decode cX1_give 106 = .ok (.bipush 10, 2) := by decide +kernel
theorem dX1_give_108 : decode cX1_give 108 = .ok (.iload 4, 2) := by decide +kernel
theorem dX1_give_110 : decode cX1_give 110 = .ok (.iconst 1, 1) := by decide +kernel
theorem dX1_give_111 : decode cX1_give 111 = .ok (.iadd, 1) := by decide +kernel
theorem dX1_give_112 : decode cX1_give 112 = .ok (.invokevirtual 31, 3) := by decide +kernel
theorem dX1_give_115 : decode cX1_give 115 = .ok (.aload_n 0, 1) := by decide +kernel
theorem dX1_give_116 : decode cX1_give 116 = .ok (.aload_n 1, 1) := by decide +kernel
theorem dX1_give_117 : decode cX1_give 117 = .ok (.iload_n 2, 1) := by decide +kernel
theorem dX1_give_118 : decode cX1_give 118 = .ok (.getstatic 28, 3) := by decide +kernel
theorem dX1_give_121 : decode cX1_give 121 = .ok (.iload 5, 2) := by decide +kernel
theorem dX1_give_123 : decode cX1_give 123 = .ok (.iaload, 1) := by decide +kernel
theorem dX1_give_124 : decode cX1_give 124 = .ok (.iload 4, 2) := by decide +kernel
theorem dX1_give_126 : decode cX1_give 126 = .ok (.iconst 1, 1) := by decide +kernel
theorem dX1_give_127 : decode cX1_give 127 = .ok (.iadd, 1) := by decide +kernel
theorem dX1_give_128 : decode cX1_give 128 = .ok (.invokevirtual 31, 3) := by decide +kernel
theorem dX1_give_131 : decode cX1_give 131 = .ok (.iadd, 1) := by decide +kernel
theorem dX1_give_132 : decode cX1_give 132 = .ok (.ireturn, 1) := by decide +kernel
theorem dX1_give_133 : decode cX1_give 133 = .ok (.aload_n 0, 1) := by decide +kernel
theorem dX1_give_134 : decode cX1_give 134 = .ok (.aload_n 1, 1) := by decide +kernel
theorem dX1_give_135 : decode cX1_give 135 = .ok (.iload_n 2, 1) := by decide +kernel
theorem dX1_give_136 : decode cX1_give 136 = .ok (.bipush 11, 2) := by decide +kernel
theorem dX1_give_138 : decode cX1_give 138 = .ok (.iload 4, 2) := by decide +kernel
theorem dX1_give_140 : decode cX1_give 140 = .ok (.iconst 1, 1) := by decide +kernel
theorem dX1_give_141 : decode cX1_give 141 = .ok (.iadd, 1) := by decide +kernel
theorem dX1_give_142 : decode cX1_give 142 = .ok (.invokevirtual 31, 3) := by decide +kernel
theorem dX1_give_145 : decode cX1_give 145 = .ok (.ineg, 1) := by decide +kernel
theorem dX1_give_146 : decode cX1_give 146 = .ok (.ireturn, 1) := by decide +kernel
theorem dX1_give_147 : decode cX1_give 147 = .ok (.aload_n 0, 1) := by decide +kernel
theorem dX1_give_148 : decode cX1_give 148 = .ok (.aload_n 1, 1) := by decide +kernel
theorem dX1_give_149 : decode cX1_give 149 = .ok (.iload_n 2, 1) := by decide +kernel
theorem dX1_give_150 : decode cX1_give 150 = .ok (.bipush 10, 2) := by decide +kernel
theorem dX1_give_152 : decode cX1_give 152 = .ok (.iload 4, 2) := by decide +kernel
theorem dX1_give_154 : decode cX1_give 154 = .ok (.iconst 1, 1) := by decide +kernel
theorem dX1_give_155 : decode cX1_give 155 = .ok (.iadd, 1) := by decide +kernel
theorem dX1_give_156 : decode cX1_give 156 = .ok (.invokevirtual 31, 3) := by decide +kernel
theorem dX1_give_159 : decode cX1_give 159 = .ok (.bipush 100, 2) := by decide +kernel
theorem dX1_give_161 : decode cX1_give 161 = .ok (.isub, 1) := by decide +kernel
theorem dX1_give_162 : decode cX1_give 162 = .ok (.ireturn, 1) := by decide +kernel
theorem dX1_give_163 : decode cX1_give 163 = .ok (.iconst 2, 1) := by decide +kernel
theorem dX1_give_164 : decode cX1_give 164 = .ok (.aload_n 0, 1) := by decide +kernel
theorem dX1_give_165 : decode cX1_give 165 = .ok (.aload_n 1, 1) := by decide +kernel
theorem dX1_give_166 : decode cX1_give 166 = .ok (.iload_n 2, 1) := by decide +kernel
theorem dX1_give_167 : decode cX1_give 167 = .ok (.bipush 13, 2) := by decide +kernel
theorem dX1_give_169 : decode cX1_give 169 = .ok (.iload 4, 2) := by decide +kernel
theorem dX1_give_171 : decode cX1_give 171 = .ok (.iconst 1, 1) := by decide +kernel
theorem dX1_give_172 : decode cX1_give 172 = .ok (.iadd, 1) := by decide +kernel
theorem dX1_give_173 : decode cX1_give 173 = .ok (.invokevirtual 31, 3) := by decide +kernel
theorem dX1_give_176 : decode cX1_give 176 = .ok (.imul, 1) := by decide +kernel
theorem dX1_give_177 : decode cX1_give 177 = .ok (.ireturn, 1) := by decide +kernel
theorem dX1_give_178 : decode cX1_give 178 = .ok (.iload_n 2, 1) := by decide +kernel
theorem dX1_give_179 : decode cX1_give 179 = .ok (.ireturn, 1) := by decide +kernel
theorem dX1_give_180 : decode cX1_give 180 = .ok (.aload_n 0, 1) := by decide +kernel
theorem dX1_give_181 : decode cX1_give 181 = .ok (.aload_n 1, 1) := by decide +kernel
theorem dX1_give_182 : decode cX1_give 182 = .ok (.iload_n 2, 1) := by decide +kernel
theorem dX1_give_183 : decode cX1_give 183 = .ok (.bipush 20, 2) := by decide +kernel
theorem dX1_give_185 : decode cX1_give 185 = .ok (.iload 4, 2) := by decide +kernel
theorem dX1_give_187 : decode cX1_give 187 = .ok (.iconst 1, 1) := by decide +kernel
theorem dX1_give_188 : decode cX1_give 188 = .ok (.iadd, 1) := by decide +kernel
theorem dX1_give_189 : decode cX1_give 189 = .ok (.invokevirtual 31, 3) := by decide +kernel
theorem dX1_give_192 : decode cX1_give 192 = .ok (.aload_n 1, 1) := by decide +kernel
theorem dX1_give_193 : decode cX1_give 193 = .ok (.getfield 42, 3) := by decide +kernel
theorem dX1_give_196 : decode cX1_give 196 = .ok (.iload_n 2, 1) := by decide +kernel
theorem dX1_give_197 : decode cX1_give 197 = .ok (.iaload, 1) := by decide +kernel
theorem dX1_give_198 : decode cX1_give 198 = .ok (.iadd, 1) := by decide +kernel
theorem dX1_give_199 : decode cX1_give 199 = .ok (.ireturn, 1) := by decide +kernel
theorem dX1_give_200 : decode cX1_give 200 = .ok (.aload_n 0, 1) := by decide +kernel
theorem dX1_give_201 : decode cX1_give 201 = .ok (.aload_n 1, 1) := by decide +kernel
theorem dX1_give_202 : decode cX1_give 202 = .ok (.iload_n 2, 1) := by decide +kernel
theorem dX1_give_203 : decode cX1_give 203 = .ok (.bipush 21, 2) := by decide +kernel
theorem dX1_give_205 : decode cX1_give 205 = .ok (.iload 4, 2) := by decide +kernel
theorem dX1_give_207 : decode cX1_give 207 = .ok (.iconst 1, 1) := by decide +kernel
theorem dX1_give_208 : decode cX1_give 208 = .ok (.iadd, 1) := by decide +kernel
theorem dX1_give_209 : decode cX1_give 209 = .ok (.invokevirtual 31, 3) := by decide +kernel
theorem dX1_give_212 : decode cX1_give 212 = .ok (.sipush 1000, 3) := by decide +kernel
theorem dX1_give_215 : decode cX1_give 215 = .ok (.isub, 1) := by decide +kernel
theorem dX1_give_216 : decode cX1_give 216 = .ok (.ireturn, 1) := by decide +kernel
theorem dX1_give_217 : decode cX1_give 217 = .ok (.aload_n 0, 1) := by decide +kernel
theorem dX1_give_218 : decode cX1_give 218 = .ok (.aload_n 1, 1) := by decide +kernel
theorem dX1_give_219 : decode cX1_give 219 = .ok (.iload_n 2, 1) := by decide +kernel
theorem dX1_give_220 : decode cX1_give 220 = .ok (.bipush 20, 2) := by decide +kernel
theorem dX1_give_222 : decode cX1_give 222 = .ok (.iload 4, 2) := by decide +kernel
theorem dX1_give_224 : decode cX1_give 224 = .ok (.iconst 1, 1) := by decide +kernel
theorem dX1_give_225 : decode cX1_give 225 = .ok (.iadd, 1) := by decide +kernel
theorem dX1_give_226 : decode cX1_give 226 = .ok (.invokevirtual 31, 3) := by decide +kernel
theorem dX1_give_229 : decode cX1_give 229 = .ok (.aload_n 0, 1) := by decide +kernel
theorem dX1_give_230 : decode cX1_give 230 = .ok (.aload_n 1, 1) := by decide +kernel
theorem dX1_give_231 : decode cX1_give 231 = .ok (.iload_n 2, 1) := by decide +kernel
theorem dX1_give_232 : decode cX1_give 232 = .ok (.getstatic 25, 3) := by decide +kernel
theorem dX1_give_235 : decode cX1_give 235 = .ok (.iload 5, 2) := by decide +kernel
theorem dX1_give_237 : decode cX1_give 237 = .ok (.iaload, 1) := by decide +kernel
theorem dX1_give_238 : decode cX1_give 238 = .ok (.iload 4, 2) := by decide +kernel
theorem dX1_give_240 : decode cX1_give 240 = .ok (.iconst 1, 1) := by decide +kernel
theorem dX1_give_241 : decode cX1_give 241 = .ok (.iadd, 1) := by decide +kernel
theorem dX1_give_242 : decode cX1_give 242 = .ok (.invokevirtual 31, 3) := by decide +kernel
theorem dX1_give_245 : decode cX1_give 245 = .ok (.isub, 1) := by decide +kernel
theorem dX1_give_246 : decode cX1_give 246 = .ok (.ireturn, 1) := by decide +kernel
theorem dX1_give_247 : decode cX1_give 247 = .ok (.iconst 2, 1) := by decide +kernel
theorem dX1_give_248 : decode cX1_give 248 = .ok (.aload_n 0, 1) := by decide +kernel
theorem dX1_give_249 : decode cX1_give 249 = .ok (.aload_n 1, 1) := by decide +kernel
theorem dX1_give_250 : decode cX1_give 250 = .ok (.iload_n 2, 1) := by decide +kernel
theorem dX1_give_251 : decode cX1_give 251 = .ok (.bipush 21, 2) := by decide +kernel
theorem dX1_give_253 : decode cX1_give 253 = .ok (.iload 4, 2) := by decide +kernel
theorem dX1_give_255 : decode cX1_give 255 = .ok (.iconst 1, 1) := by decide +kernel
theorem dX1_give_256 : decode cX1_give 256 = .ok (.iadd, 1) := by decide +kernel
theorem dX1_give_257 : decode cX1_give 257 = .ok (.invokevirtual 31, 3) := by decide +kernel
theorem dX1_give_260 : decode cX1_give 260 = .ok (.imul, 1) := by decide +kernel
theorem dX1_give_261 : decode cX1_give 261 = .ok (.ireturn, 1) := by decide +kernel
theorem dX1_give_262 : decode cX1_give 262 = .ok (.iconst 0, 1) := by decide +kernel
theorem dX1_give_263 : decode cX1_give 263 = .ok (.ireturn, 1) := by decide +kernel
theorem dX1_leaveTrace_0 : decode cX1_leaveTrace 0 = .ok (.aload_n 0, 1) := by decide +kernel
theorem dX1_leaveTrace_1 : decode cX1_leaveTrace 1 = .ok (.getfield 16, 3) := by decide +kernel
theorem dX1_leaveTrace_4 : decode cX1_leaveTrace 4 = .ok (.bipush 16, 2) := by decide +kernel
theorem dX1_leaveTrace_6 : decode cX1_leaveTrace 6 = .ok (.if_icmp .ge 23, 3) := by decide +kernel
theorem dX1_leaveTrace_9 : decode cX1_leaveTrace 9 = .ok (.aload_n 0, 1) := by decide +kernel
theorem dX1_leaveTrace_10 : decode cX1_leaveTrace 10 = .ok (.getfield 9, 3) := by decide +kernel
theorem dX1_leaveTrace_13 : decode cX1_leaveTrace 13 = .ok (.aload_n 0, 1) := by decide +kernel
theorem dX1_leaveTrace_14 : decode cX1_leaveTrace 14 = .ok (.getfield 16, 3) := by decide +kernel
theorem dX1_leaveTrace_17 : decode cX1_leaveTrace 17 = .ok (.iload_n 1, 1) := by decide +kernel
theorem dX1_leaveTrace_18 : decode cX1_leaveTrace 18 = .ok (.iastore, 1) := by decide +kernel
theorem dX1_leaveTrace_19 : decode cX1_leaveTrace 19 = .ok (.aload_n 0, 1) := by decide +kernel
theorem dX1_leaveTrace_20 : decode cX1_leaveTrace 20 = .ok (.dup, 1) := by decide +kernel
theorem dX1_leaveTrace_21 : decode cX1_leaveTrace 21 = .ok (.getfield 16, 3) := by decide +kernel
theorem dX1_leaveTrace_24 : decode cX1_leaveTrace 24 = .ok (.iconst 1, 1) := by decide +kernel
theorem dX1_leaveTrace_25 : decode cX1_leaveTrace 25 = .ok (.iadd, 1) := by decide +kernel
theorem dX1_leaveTrace_26 : decode cX1_leaveTrace 26 = .ok (.putfield 16, 3) := by decide +kernel
theorem dX1_leaveTrace_29 : decode cX1_leaveTrace 29 = .ok (.return_, 1) := by decide +kernel
theorem dX2_init_0 : decode cX2_init 0 = .ok (.aload_n 0, 1) := by decide +kernel
theorem dX2_init_1 : decode cX2_init 1 = .ok (.invokespecial 5, 3) := by decide +kernel
theorem dX2_init_4 : decode cX2_init 4 = .ok (.aload_n 0, 1) := by decide +kernel
theorem dX2_init_5 : decode cX2_init 5 = .ok (.new 11, 3) := by decide +kernel
theorem dX2_init_8 : decode cX2_init 8 = .ok (.dup, 1) := by decide +kernel
theorem dX2_init_9 : decode cX2_init 9 = .ok (.invokespecial 13, 3) := by decide +kernel
theorem dX2_init_12 : decode cX2_init 12 = .ok (.putfield 14, 3) := by decide +kernel
theorem dX2_init_15 : decode cX2_init 15 = .ok (.aload_n 0, 1) := by decide +kernel
theorem dX2_init_16 : decode cX2_init 16 = .ok (.sipush 128, 3) := by decide +kernel
theorem dX2_init_19 : decode cX2_init 19 = .ok (.newarray .int, 2) := by decide +kernel
theorem dX2_init_21 : decode cX2_init 21 = .ok (.putfield 18, 3) := by decide +kernel
theorem dX2_init_24 : decode cX2_init 24 = .ok (.aload_n 0, 1) := by decide +kernel
theorem dX2_init_25 : decode cX2_init 25 = .ok (.bipush 8, 2) := by decide +kernel
theorem dX2_init_27 : decode cX2_init 27 = .ok (.newarray .int, 2) := by decide +kernel
theorem dX2_init_29 : decode cX2_init 29 = .ok (.putfield 22, 3) := by decide +kernel
theorem dX2_init_32 : decode cX2_init 32 = .ok (.aload_n 0, 1) := by decide +kernel
theorem dX2_init_33 : decode cX2_init 33 = .ok (.bipush 21, 2) := by decide +kernel
theorem dX2_init_35 : decode cX2_init 35 = .ok (.newarray .int, 2) := by decide +kernel
theorem dX2_init_37 : decode cX2_init 37 = .ok (.putfield 25, 3) := by decide +kernel
theorem dX2_init_40 : decode cX2_init 40 = .ok (.aload_n 0, 1) := by decide +kernel
theorem dX2_init_41 : decode cX2_init 41 = .ok (.bipush 21, 2) := by decide +kernel
theorem dX2_init_43 : decode cX2_init 43 = .ok (.newarray .int, 2) := by decide +kernel
theorem dX2_init_45 : decode cX2_init 45 = .ok (.putfield 28, 3) := by decide +kernel
theorem dX2_init_48 : decode cX2_init 48 = .ok (.aload_n 0, 1) := by decide +kernel
theorem dX2_init_49 : decode cX2_init 49 = .ok (.bipush 12, 2) := by decide +kernel
theorem dX2_init_51 : decode cX2_init 51 = .ok (.newarray .int, 2) := by decide +kernel
theorem dX2_init_53 : decode cX2_init 53 = .ok (.putfield 31, 3) := by decide +kernel
theorem dX2_init_56 : decode cX2_init 56 = .ok (.return_, 1) := by decide +kernel
theorem dX2_townIn_0 : decode cX2_townIn 0 = .ok (.aload_n 0, 1) := by decide +kernel
theorem dX2_townIn_1 : decode cX2_townIn 1 = .ok (.getfield 14, 3) := by decide +kernel
theorem dX2_townIn_4 : decode cX2_townIn 4 = .ok (.aload_n 1, 1) := by decide +kernel
theorem dX2_townIn_5 : decode cX2_townIn 5 = .ok (.invokevirtual 34, 3) := by decide +kernel
theorem dX2_townIn_8 : decode cX2_townIn 8 = .ok (.aload_n 0, 1) := by decide +kernel
theorem dX2_townIn_9 : decode cX2_townIn 9 = .ok (.getfield 14, 3) := by decide +kernel
theorem dX2_townIn_12 : decode cX2_townIn 12 = .ok (.iload_n 2, 1) := by decide +kernel
theorem dX2_townIn_13 : decode cX2_townIn 13 = .ok (.invokevirtual 38, 3) := by decide +kernel
theorem dX2_townIn_16 : decode cX2_townIn 16 = .ok (.aload_n 0, 1) := by decide +kernel
theorem dX2_townIn_17 : decode cX2_townIn 17 = .ok (.getfield 14, 3) := by decide +kernel
theorem dX2_townIn_20 : decode cX2_townIn 20 = .ok (.areturn, 1) := by decide +kernel
theorem dX2_hoursUntilAwake_0 : decode cX2_hoursUntilAwake 0 = .ok (.aload_n 0, 1) := by decide +kernel
theorem dX2_hoursUntilAwake_1 : decode cX2_hoursUntilAwake 1 = .ok (.getfield 14, 3) := by decide +kernel
theorem dX2_hoursUntilAwake_4 : decode cX2_hoursUntilAwake 4 = .ok (.aload_n 1, 1) := by decide +kernel
theorem dX2_hoursUntilAwake_5 : decode cX2_hoursUntilAwake 5 = .ok (.invokevirtual 34, 3) := by decide +kernel
theorem dX2_hoursUntilAwake_8 : decode cX2_hoursUntilAwake 8 = .ok (.iconst 0, 1) := by decide +kernel
theorem dX2_hoursUntilAwake_9 : decode cX2_hoursUntilAwake 9 = .ok (.istore_n 3, 1) := by decide +kernel
theorem dX2_hoursUntilAwake_10 : decode cX2_hoursUntilAwake 10 = .ok (.iload_n 3, 1) := by decide +kernel
theorem dX2_hoursUntilAwake_11 : decode cX2_hoursUntilAwake 11 = .ok (.bipush 60, 2) := by decide +kernel
theorem dX2_hoursUntilAwake_13 : decode cX2_hoursUntilAwake 13 = .ok (.if_icmp .gt 31, 3) := by decide +kernel
theorem dX2_hoursUntilAwake_16 : decode cX2_hoursUntilAwake 16 = .ok (.aload_n 0, 1) := by decide +kernel
theorem dX2_hoursUntilAwake_17 : decode cX2_hoursUntilAwake 17 = .ok (.getfield 14, 3) := by decide +kernel
theorem dX2_hoursUntilAwake_20 : decode cX2_hoursUntilAwake 20 = .ok (.invokevirtual 42, 3) := by decide +kernel
theorem dX2_hoursUntilAwake_23 : decode cX2_hoursUntilAwake 23 = .ok (.iload_n 2, 1) := by decide +kernel
theorem dX2_hoursUntilAwake_24 : decode cX2_hoursUntilAwake 24 = .ok (.iand, 1) := by decide +kernel
theorem dX2_hoursUntilAwake_25 : decode cX2_hoursUntilAwake 25 = .ok (.iload_n 2, 1) := by decide +kernel
theorem dX2_hoursUntilAwake_26 : decode cX2_hoursUntilAwake 26 = .ok (.if_icmp .ne 5, 3) := by decide +kernel
theorem dX2_hoursUntilAwake_29 : decode cX2_hoursUntilAwake 29 = .ok (.iload_n 3, 1) := by decide +kernel
theorem dX2_hoursUntilAwake_30 : decode cX2_hoursUntilAwake 30 = .ok (.ireturn, 1) := by decide +kernel
theorem dX2_hoursUntilAwake_31 : decode cX2_hoursUntilAwake 31 = .ok (.aload_n 0, 1) := by decide +kernel
theorem dX2_hoursUntilAwake_32 : decode cX2_hoursUntilAwake 32 = .ok (.getfield 14, 3) := by decide +kernel
theorem dX2_hoursUntilAwake_35 : decode cX2_hoursUntilAwake 35 = .ok (.invokevirtual 46, 3) := by decide +kernel
theorem dX2_hoursUntilAwake_38 : decode cX2_hoursUntilAwake 38 = .ok (.iinc 3 1, 3) := by decide +kernel
theorem dX2_hoursUntilAwake_41 : decode cX2_hoursUntilAwake 41 = .ok (.goto (-31), 3) := by decide +kernel
theorem dX2_hoursUntilAwake_44 : decode cX2_hoursUntilAwake 44 = .ok (.ldc 49, 2) := by decide +kernel
theorem dX2_hoursUntilAwake_46 : decode cX2_hoursUntilAwake 46 = .ok (.ireturn, 1) := by decide +kernel
theorem dX2_findTune_0 : decode cX2_findTune 0 = .ok (.aload_n 0, 1) := by decide +kernel
theorem dX2_findTune_1 : decode cX2_findTune 1 = .ok (.aload_n 1, 1) := by decide +kernel
theorem dX2_findTune_2 : decode cX2_findTune 2 = .ok (.iload_n 2, 1) := by decide +kernel
theorem dX2_findTune_3 : decode cX2_findTune 3 = .ok (.iload_n 3, 1) := by decide +kernel
theorem dX2_findTune_4 : decode cX2_findTune 4 = .ok (.invokevirtual 50, 3) := by decide +kernel
theorem dX2_findTune_7 : decode cX2_findTune 7 = .ok (.aload_n 0, 1) := by decide +kernel
theorem dX2_findTune_8 : decode cX2_findTune 8 = .ok (.aload_n 1, 1) := by decide +kernel
theorem dX2_findTune_9 : decode cX2_findTune 9 = .ok (.invokevirtual 54, 3) := by decide +kernel
theorem dX2_findTune_12 : decode cX2_findTune 12 = .ok (.iconst 1, 1) := by decide +kernel
theorem dX2_findTune_13 : decode cX2_findTune 13 = .ok (.istore 4, 2) := by decide +kernel
theorem dX2_findTune_15 : decode cX2_findTune 15 = .ok (.iconst 0, 1) := by decide +kernel
theorem dX2_findTune_16 : decode cX2_findTune 16 = .ok (.istore 5, 2) := by decide +kernel
theorem dX2_findTune_18 : decode cX2_findTune 18 = .ok (.iload 5, 2) := by decide +kernel
theorem dX2_findTune_20 : decode cX2_findTune 20 = .ok (.iload_n 2, 1) := by decide +kernel
theorem dX2_findTune_21 : decode cX2_findTune 21 = .ok (.if_icmp .ge 18, 3) := by decide +kernel
theorem dX2_findTune_24 : decode cX2_findTune 24 = .ok (.iload 4, 2) := by decide +kernel
theorem dX2_findTune_26 : decode cX2_findTune 26 = .ok (.aload_n 1, 1) := by decide +kernel
theorem dX2_findTune_27 : decode cX2_findTune 27 = .ok (.getfield 57, 3) := by decide +kernel
theorem dX2_findTune_30 : decode cX2_findTune 30 = .ok (.imul, 1) := by decide +kernel
theorem dX2_findTune_31 : decode cX2_findTune 31 = .ok (.istore 4, 2) := by decide +kernel
theorem dX2_findTune_33 : decode cX2_findTune 33 = .ok (.iinc 5 1, 3) := by decide +kernel
theorem dX2_findTune_36 : decode cX2_findTune 36 = .ok (.goto (-18), 3) := by decide +kernel
theorem dX2_findTune_39 : decode cX2_findTune 39 = .ok (.aload_n 0, 1) := by decide +kernel
theorem dX2_findTune_40 : decode cX2_findTune 40 = .ok (.iconst 0, 1) := by decide +kernel
theorem dX2_findTune_41 : decode cX2_findTune 41 = .ok (.putfield 61, 3) := by decide +kernel
theorem dX2_findTune_44 : decode cX2_findTune 44 = .ok (.aload_n 0, 1) := by decide +kernel
theorem dX2_findTune_45 : decode cX2_findTune 45 = .ok (.iconst 0, 1) := by decide +kernel
theorem dX2_findTune_46 : decode cX2_findTune 46 = .ok (.aload_n 1, 1) := by decide +kernel
theorem dX2_findTune_47 : decode cX2_findTune 47 = .ok (.getfield 57, 3) := by decide +kernel
theorem dX2_findTune_50 : decode cX2_findTune 50 = .ok (.iload_n 2, 1) := by decide +kernel
theorem dX2_findTune_51 : decode cX2_findTune 51 = .ok (.invokevirtual 64, 3) := by decide +kernel
theorem dX2_findTune_54 : decode cX2_findTune 54 = .ok (.istore 5, 2) := by decide +kernel
theorem dX2_findTune_56 : decode cX2_findTune 56 = .ok (.iconst 1, 1) := by decide +kernel
theorem dX2_findTune_57 : decode cX2_findTune 57 = .ok (.istore 6, 2) := by decide +kernel
theorem dX2_findTune_59 : decode cX2_findTune 59 = .ok (.iload 6, 2) := by decide +kernel
theorem dX2_findTune_61 : decode cX2_findTune 61 = .ok (.iload 4, 2) := by decide +kernel
theorem dX2_findTune_63 : decode cX2_findTune 63 = .ok (.if_icmp .ge 39, 3) := by decide +kernel
theorem dX2_findTune_66 : decode cX2_findTune 66 = .ok (.aload_n 0, 1) := by decide +kernel
theorem dX2_findTune_67 : decode cX2_findTune 67 = .ok (.iload 6, 2) := by decide +kernel
theorem dX2_findTune_69 : decode cX2_findTune 69 = .ok (.aload_n 1, 1) := by decide +kernel
theorem dX2_findTune_70 : decode cX2_findTune 70 = .ok (.getfield 57, 3) := by decide +kernel
theorem dX2_findTune_73 : decode cX2_findTune 73 = .ok (.iload_n 2, 1) := by decide +kernel
theorem dX2_findTune_74 : decode cX2_findTune 74 = .ok (.invokevirtual 64, 3) := by decide +kernel
theorem dX2_findTune_77 : decode cX2_findTune 77 = .ok (.istore 7, 2) := by decide +kernel
theorem dX2_findTune_79 : decode cX2_findTune 79 = .ok (.iload 7, 2) := by decide +kernel
theorem dX2_findTune_81 : decode cX2_findTune 81 = .ok (.iload 5, 2) := by decide +kernel
theorem dX2_findTune_83 : decode cX2_findTune 83 = .ok (.if_icmp .ge 13, 3) := by decide +kernel
theorem dX2_findTune_86 : decode cX2_findTune 86 = .ok (.iload 7, 2) := by decide +kernel
theorem dX2_findTune_88 : decode cX2_findTune 88 = .ok (.istore 5, 2) := by decide +kernel
theorem dX2_findTune_90 : decode cX2_findTune 90 = .ok (.aload_n 0, 1) := by decide +kernel
theorem dX2_findTune_91 : decode cX2_findTune 91 = .ok (.iload 6, 2) := by decide +kernel
theorem dX2_findTune_93 : decode cX2_findTune 93 = .ok (.putfield 61, 3) := by decide +kernel
theorem dX2_findTune_96 : decode cX2_findTune 96 = .ok (.iinc 6 1, 3) := by decide +kernel
theorem dX2_findTune_99 : decode cX2_findTune 99 = .ok (.goto (-40), 3) := by decide +kernel
theorem dX2_findTune_102 : decode cX2_findTune 102 = .ok (.aload_n 0, 1) := by decide +kernel
theorem dX2_findTune_103 : decode cX2_findTune 103 = .ok (.iload 5, 2) := by decide +kernel
theorem dX2_findTune_105 : decode cX2_findTune 105 = .ok (.bipush 16, 2) := by decide +kernel
theorem dX2_findTune_107 : decode cX2_findTune 107 = .ok (.idiv, 1) := by decide +kernel
theorem dX2_findTune_108 : decode cX2_findTune 108 = .ok (.putfield 68, 3) := by decide +kernel
theorem dX2_findTune_111 : decode cX2_findTune 111 = .ok (.return_, 1) := by decide +kernel
theorem dX2_tunedBeat_0 : decode cX2_tunedBeat 0 = .ok (.aload_n 0, 1) := by decide +kernel
theorem dX2_tunedBeat_1 : decode cX2_tunedBeat 1 = .ok (.getfield 61, 3) := by decide +kernel
theorem dX2_tunedBeat_4 : decode cX2_tunedBeat 4 = .ok (.istore 4, 2) := by decide +kernel
theorem dX2_tunedBeat_6 : decode cX2_tunedBeat 6 = .ok (.iload_n 2, 1) := by decide +kernel
theorem dX2_tunedBeat_7 : decode cX2_tunedBeat 7 = .ok (.iconst 1, 1) := by decide +kernel
theorem dX2_tunedBeat_8 : decode cX2_tunedBeat 8 = .ok (.isub, 1) := by decide +kernel
theorem dX2_tunedBeat_9 : decode cX2_tunedBeat 9 = .ok (.istore 5, 2) := by decide +kernel
theorem dX2_tunedBeat_11 : decode cX2_tunedBeat 11 = .ok (.iload 5, 2) := by decide +kernel
theorem dX2_tunedBeat_13 : decode cX2_tunedBeat 13 = .ok (.iload_n 3, 1) := by decide +kernel
theorem dX2_tunedBeat_14 : decode cX2_tunedBeat 14 = .ok (.if_icmp .le 19, 3) := by decide +kernel
theorem dX2_tunedBeat_17 : decode cX2_tunedBeat 17 = .ok (.iload 4, 2) := by decide +kernel
theorem dX2_tunedBeat_19 : decode cX2_tunedBeat 19 = .ok (.iload_n 1, 1) := by decide +kernel
theorem dX2_tunedBeat_20 : decode cX2_tunedBeat 20 = .ok (.iconst 1, 1) := by decide +kernel
theorem dX2_tunedBeat_21 : decode cX2_tunedBeat 21 = .ok (.invokestatic 71, 3) := by decide +kernel
theorem dX2_tunedBeat_24 : decode cX2_tunedBeat 24 = .ok (.idiv, 1) := by decide +kernel
theorem dX2_tunedBeat_25 : decode cX2_tunedBeat 25 = .ok (.istore 4, 2) := by decide +kernel
theorem dX2_tunedBeat_27 : decode cX2_tunedBeat 27 = .ok (.iinc 5 (-1), 3) := by decide +kernel
theorem dX2_tunedBeat_30 : decode cX2_tunedBeat 30 = .ok (.goto (-19), 3) := by decide +kernel
theorem dX2_tunedBeat_33 : decode cX2_tunedBeat 33 = .ok (.iload 4, 2) := by decide +kernel
theorem dX2_tunedBeat_35 : decode cX2_tunedBeat 35 = .ok (.iload_n 1, 1) := by decide +kernel
theorem dX2_tunedBeat_36 : decode cX2_tunedBeat 36 = .ok (.iconst 1, 1) := by decide +kernel
theorem dX2_tunedBeat_37 : decode cX2_tunedBeat 37 = .ok (.invokestatic 71, 3) := by decide +kernel
theorem dX2_tunedBeat_40 : decode cX2_tunedBeat 40 = .ok (.irem, 1) := by decide +kernel
theorem dX2_tunedBeat_41 : decode cX2_tunedBeat 41 = .ok (.ireturn, 1) := by decide +kernel
theorem dX2_weighPatterns_0 : decode cX2_weighPatterns 0 = .ok (.iconst 0, 1) := by decide +kernel
theorem dX2_weighPatterns_1 : decode cX2_weighPatterns 1 = .ok (.istore 4, 2) := by decide +kernel
theorem dX2_weighPatterns_3 : decode cX2_weighPatterns 3 = .ok (.iload 4, 2) := by decide +kernel
theorem dX2_weighPatterns_5 : decode cX2_weighPatterns 5 = .ok (.aload_n 1, 1) := by decide +kernel
theorem dX2_weighPatterns_6 : decode cX2_weighPatterns 6 = .ok (.getfield 57, 3) := by decide +kernel
theorem dX2_weighPatterns_9 : decode cX2_weighPatterns 9 = .ok (.if_icmp .ge 49, 3) := by decide +kernel
theorem dX2_weighPatterns_12 : decode cX2_weighPatterns 12 = .ok (.iconst 0, 1) := by decide +kernel
theorem dX2_weighPatterns_13 : decode cX2_weighPatterns 13 = .ok (.istore 5, 2) := by decide +kernel
theorem dX2_weighPatterns_15 : decode cX2_weighPatterns 15 = .ok (.iload 5, 2) := by decide +kernel
theorem dX2_weighPatterns_17 : decode cX2_weighPatterns 17 = .ok (.iconst 1, 1) := by decide +kernel
theorem dX2_weighPatterns_18 : decode cX2_weighPatterns 18 = .ok (.iload_n 2, 1) := by decide +kernel
theorem dX2_weighPatterns_19 : decode cX2_weighPatterns 19 = .ok (.ishl, 1) := by decide +kernel
theorem dX2_weighPatterns_20 : decode cX2_weighPatterns 20 = .ok (.if_icmp .ge 32, 3) := by decide +kernel
theorem dX2_weighPatterns_23 : decode cX2_weighPatterns 23 = .ok (.aload_n 0, 1) := by decide +kernel
theorem dX2_weighPatterns_24 : decode cX2_weighPatterns 24 = .ok (.getfield 18, 3) := by decide +kernel
theorem dX2_weighPatterns_27 : decode cX2_weighPatterns 27 = .ok (.iload 4, 2) := by decide +kernel
theorem dX2_weighPatterns_29 : decode cX2_weighPatterns 29 = .ok (.bipush 16, 2) := by decide +kernel
theorem dX2_weighPatterns_31 : decode cX2_weighPatterns 31 = .ok (.imul, 1) := by decide +kernel
theorem dX2_weighPatterns_32 : decode cX2_weighPatterns 32 = .ok (.iload 5, 2) := by decide +kernel
theorem dX2_weighPatterns_34 : decode cX2_weighPatterns 34 = .ok (.iadd, 1) := by decide +kernel
theorem dX2_weighPatterns_35 : decode cX2_weighPatterns 35 = .ok (.aload_n 1, 1) := by decide +kernel
theorem dX2_weighPatterns_36 : decode cX2_weighPatterns 36 = .ok (.iload 4, 2) := by decide +kernel
theorem dX2_weighPatterns_38 : decode cX2_weighPatterns 38 = .ok (.iload 5, 2) := by decide +kernel
theorem dX2_weighPatterns_40 : decode cX2_weighPatterns 40 = .ok (.iload_n 2, 1) := by decide +kernel
theorem dX2_weighPatterns_41 : decode cX2_weighPatterns 41 = .ok (.iload_n 3, 1) := by decide +kernel
theorem dX2_weighPatterns_42 : decode cX2_weighPatterns 42 = .ok (.invokestatic 77, 3) := by decide +kernel
theorem dX2_weighPatterns_45 : decode cX2_weighPatterns 45 = .ok (.iastore, 1) := by decide +kernel
theorem dX2_weighPatterns_46 : decode cX2_weighPatterns 46 = .ok (.iinc 5 1, 3) := by decide +kernel
theorem dX2_weighPatterns_49 : decode cX2_weighPatterns 49 = .ok (.goto (-34), 3) := by decide +kernel
theorem dX2_weighPatterns_52 : decode cX2_weighPatterns 52 = .ok (.iinc 4 1, 3) := by decide +kernel
theorem dX2_weighPatterns_55 : decode cX2_weighPatterns 55 = .ok (.goto (-52), 3) := by decide +kernel
theorem dX2_weighPatterns_58 : decode cX2_weighPatterns 58 = .ok (.return_, 1) := by decide +kernel
theorem dX2_burdenOn_0 : decode cX2_burdenOn 0 = .ok (.iload_n 3, 1) := by decide +kernel
theorem dX2_burdenOn_1 : decode cX2_burdenOn 1 = .ok (.iconst 1, 1) := by decide +kernel
theorem dX2_burdenOn_2 : decode cX2_burdenOn 2 = .ok (.invokestatic 71, 3) := by decide +kernel
theorem dX2_burdenOn_5 : decode cX2_burdenOn 5 = .ok (.istore 5, 2) := by decide +kernel
theorem dX2_burdenOn_7 : decode cX2_burdenOn 7 = .ok (.aload_n 0, 1) := by decide +kernel
theorem dX2_burdenOn_8 : decode cX2_burdenOn 8 = .ok (.getfield 81, 3) := by decide +kernel
theorem dX2_burdenOn_11 : decode cX2_burdenOn 11 = .ok (.iload_n 1, 1) := by decide +kernel
theorem dX2_burdenOn_12 : decode cX2_burdenOn 12 = .ok (.iaload, 1) := by decide +kernel
theorem dX2_burdenOn_13 : decode cX2_burdenOn 13 = .ok (.istore 6, 2) := by decide +kernel
theorem dX2_burdenOn_15 : decode cX2_burdenOn 15 = .ok (.aload_n 0, 1) := by decide +kernel
theorem dX2_burdenOn_16 : decode cX2_burdenOn 16 = .ok (.getfield 84, 3) := by decide +kernel
theorem dX2_burdenOn_19 : decode cX2_burdenOn 19 = .ok (.iload_n 1, 1) := by decide +kernel
theorem dX2_burdenOn_20 : decode cX2_burdenOn 20 = .ok (.iaload, 1) := by decide +kernel
theorem dX2_burdenOn_21 : decode cX2_burdenOn 21 = .ok (.istore 7, 2) := by decide +kernel
theorem dX2_burdenOn_23 : decode cX2_burdenOn 23 = .ok (.aload_n 0, 1) := by decide +kernel
theorem dX2_burdenOn_24 : decode cX2_burdenOn 24 = .ok (.getfield 87, 3) := by decide +kernel
theorem dX2_burdenOn_27 : decode cX2_burdenOn 27 = .ok (.istore 8, 2) := by decide +kernel
theorem dX2_burdenOn_29 : decode cX2_burdenOn 29 = .ok (.iload 8, 2) := by decide +kernel
theorem dX2_burdenOn_31 : decode cX2_burdenOn 31 = .ok (.aload_n 0, 1) := by decide +kernel
theorem dX2_burdenOn_32 : decode cX2_burdenOn 32 = .ok (.getfield 87, 3) := by decide +kernel
theorem dX2_burdenOn_35 : decode cX2_burdenOn 35 = .ok (.iload 4, 2) := by decide +kernel
theorem dX2_burdenOn_37 : decode cX2_burdenOn 37 = .ok (.iadd, 1) := by decide +kernel
theorem dX2_burdenOn_38 : decode cX2_burdenOn 38 = .ok (.if_icmp .ge 64, 3) := by decide +kernel
theorem dX2_burdenOn_41 : decode cX2_burdenOn 41 = .ok (.iload_n 2, 1) := by decide +kernel
theorem dX2_burdenOn_42 : decode cX2_burdenOn 42 = .ok (.iload 8, 2) := by decide +kernel
theorem dX2_burdenOn_44 : decode cX2_burdenOn 44 = .ok (.iload 5, 2) := by decide +kernel
theorem dX2_burdenOn_46 : decode cX2_burdenOn 46 = .ok (.irem, 1) := by decide +kernel
theorem dX2_burdenOn_47 : decode cX2_burdenOn 47 = .ok (.ishr, 1) := by decide +kernel
theorem dX2_burdenOn_48 : decode cX2_burdenOn 48 = .ok (.iconst 1, 1) := by decide +kernel
theorem dX2_burdenOn_49 : decode cX2_burdenOn 49 = .ok (.iand, 1) := by decide +kernel
theorem dX2_burdenOn_50 : decode cX2_burdenOn 50 = .ok (.iconst 1, 1) := by decide +kernel
theorem dX2_burdenOn_51 : decode cX2_burdenOn 51 = .ok (.if_icmp .ne 7, 3) := by decide +kernel
theorem dX2_burdenOn_54 : decode cX2_burdenOn 54 = .ok (.iconst 1, 1) := by decide +kernel
theorem dX2_burdenOn_55 : decode cX2_burdenOn 55 = .ok (.goto 4, 3) := by decide +kernel
theorem dX2_burdenOn_58 : decode cX2_burdenOn 58 = .ok (.iconst 0, 1) := by decide +kernel
theorem dX2_burdenOn_59 : decode cX2_burdenOn 59 = .ok (.istore 9, 2) := by decide +kernel
theorem dX2_burdenOn_61 : decode cX2_burdenOn 61 = .ok (.iload 7, 2) := by decide +kernel
theorem dX2_burdenOn_63 : decode cX2_burdenOn 63 = .ok (.iload 6, 2) := by decide +kernel
theorem dX2_burdenOn_65 : decode cX2_burdenOn 65 = .ok (.iload 7, 2) := by decide +kernel
theorem dX2_burdenOn_67 : decode cX2_burdenOn 67 = .ok (.aload_n 0, 1) := by decide +kernel
theorem dX2_burdenOn_68 : decode cX2_burdenOn 68 = .ok (.getfield 90, 3) := by decide +kernel
theorem dX2_burdenOn_71 : decode cX2_burdenOn 71 = .ok (.iload 9, 2) := by decide +kernel
theorem dX2_burdenOn_73 : decode cX2_burdenOn 73 = .ok (.invokestatic 93, 3) := by decide +kernel
theorem dX2_burdenOn_76 : decode cX2_burdenOn 76 = .ok (.isub, 1) := by decide +kernel
theorem dX2_burdenOn_77 : decode cX2_burdenOn 77 = .ok (.istore 7, 2) := by decide +kernel
theorem dX2_burdenOn_79 : decode cX2_burdenOn 79 = .ok (.aload_n 0, 1) := by decide +kernel
theorem dX2_burdenOn_80 : decode cX2_burdenOn 80 = .ok (.getfield 97, 3) := by decide +kernel
theorem dX2_burdenOn_83 : decode cX2_burdenOn 83 = .ok (.iload_n 1, 1) := by decide +kernel
theorem dX2_burdenOn_84 : decode cX2_burdenOn 84 = .ok (.iaload, 1) := by decide +kernel
theorem dX2_burdenOn_85 : decode cX2_burdenOn 85 = .ok (.iload 6, 2) := by decide +kernel
theorem dX2_burdenOn_87 : decode cX2_burdenOn 87 = .ok (.iload 9, 2) := by decide +kernel
theorem dX2_burdenOn_89 : decode cX2_burdenOn 89 = .ok (.iload 8, 2) := by decide +kernel
theorem dX2_burdenOn_91 : decode cX2_burdenOn 91 = .ok (.invokestatic 100, 3) := by decide +kernel
theorem dX2_burdenOn_94 : decode cX2_burdenOn 94 = .ok (.istore 6, 2) := by decide +kernel
theorem dX2_burdenOn_96 : decode cX2_burdenOn 96 = .ok (.iinc 8 1, 3) := by decide +kernel
theorem dX2_burdenOn_99 : decode cX2_burdenOn 99 = .ok (.goto (-70), 3) := by decide +kernel
theorem dX2_burdenOn_102 : decode cX2_burdenOn 102 = .ok (.bipush 16, 2) := by decide +kernel
theorem dX2_burdenOn_104 : decode cX2_burdenOn 104 = .ok (.aload_n 0, 1) := by decide +kernel
theorem dX2_burdenOn_105 : decode cX2_burdenOn 105 = .ok (.getfield 84, 3) := by decide +kernel
theorem dX2_burdenOn_108 : decode cX2_burdenOn 108 = .ok (.iload_n 1, 1) := by decide +kernel
theorem dX2_burdenOn_109 : decode cX2_burdenOn 109 = .ok (.iaload, 1) := by decide +kernel
theorem dX2_burdenOn_110 : decode cX2_burdenOn 110 = .ok (.iload 7, 2) := by decide +kernel
theorem dX2_burdenOn_112 : decode cX2_burdenOn 112 = .ok (.isub, 1) := by decide +kernel
theorem dX2_burdenOn_113 : decode cX2_burdenOn 113 = .ok (.imul, 1) := by decide +kernel
theorem dX2_burdenOn_114 : decode cX2_burdenOn 114 = .ok (.iload 6, 2) := by decide +kernel
theorem dX2_burdenOn_116 : decode cX2_burdenOn 116 = .ok (.ifCond .ne 7, 3) := by decide +kernel
theorem dX2_burdenOn_119 : decode cX2_burdenOn 119 = .ok (.iconst 1, 1) := by decide +kernel
theorem dX2_burdenOn_120 : decode cX2_burdenOn 120 = .ok (.goto 4, 3) := by decide +kernel
theorem dX2_burdenOn_123 : decode cX2_burdenOn 123 = .ok (.iconst 0, 1) := by decide +kernel
theorem dX2_burdenOn_124 : decode cX2_burdenOn 124 = .ok (.iadd, 1) := by decide +kernel
theorem dX2_burdenOn_125 : decode cX2_burdenOn 125 = .ok (.ireturn, 1) := by decide +kernel
theorem dX2_gatherHearers_0 : decode cX2_gatherHearers 0 = .ok (.iconst 0, 1) := by decide +kernel
theorem dX2_gatherHearers_1 : decode cX2_gatherHearers 1 = .ok (.istore_n 2, 1) := by decide +kernel
theorem dX2_gatherHearers_2 : decode cX2_gatherHearers 2 = .ok (.iload_n 2, 1) := by decide +kernel
theorem dX2_gatherHearers_3 : decode cX2_gatherHearers 3 = .ok (.aload_n 1, 1) := by decide +kernel
theorem dX2_gatherHearers_4 : decode cX2_gatherHearers 4 = .ok (.getfield 57, 3) := by decide +kernel
theorem dX2_gatherHearers_7 : decode cX2_gatherHearers 7 = .ok (.if_icmp .ge 59, 3) := by decide +kernel
theorem dX2_gatherHearers_10 : decode cX2_gatherHearers 10 = .ok (.aload_n 0, 1) := by decide +kernel
theorem dX2_gatherHearers_11 : decode cX2_gatherHearers 11 = .ok (.getfield 22, 3) := by decide +kernel
theorem dX2_gatherHearers_14 : decode cX2_gatherHearers 14 = .ok (.iload_n 2, 1) := by decide +kernel
theorem dX2_gatherHearers_15 : decode cX2_gatherHearers 15 = .ok (.iconst 0, 1) := by decide +kernel
theorem dX2_gatherHearers_16 : decode cX2_gatherHearers 16 = .ok (.iastore, 1) := by decide +kernel
theorem dX2_gatherHearers_17 : decode cX2_gatherHearers 17 = .ok (.iconst 0, 1) := by decide +kernel
theorem dX2_gatherHearers_18 : decode cX2_gatherHearers 18 = .ok (.istore_n 3, 1) := by decide +kernel
theorem dX2_gatherHearers_19 : decode cX2_gatherHearers 19 = .ok (.iload_n 3, 1) := by decide +kernel
theorem dX2_gatherHearers_20 : decode cX2_gatherHearers 20 = .ok (.aload_n 1, 1) := by decide +kernel
theorem dX2_gatherHearers_21 : decode cX2_gatherHearers 21 = .ok (.getfield 57, 3) := by decide +kernel
theorem dX2_gatherHearers_24 : decode cX2_gatherHearers 24 = .ok (.if_icmp .ge 36, 3) := by decide +kernel
theorem dX2_gatherHearers_27 : decode cX2_gatherHearers 27 = .ok (.aload_n 0, 1) := by decide +kernel
theorem dX2_gatherHearers_28 : decode cX2_gatherHearers 28 = .ok (.getfield 22, 3) := by decide +kernel
theorem dX2_gatherHearers_31 : decode cX2_gatherHearers 31 = .ok (.iload_n 2, 1) := by decide +kernel
theorem dX2_gatherHearers_32 : decode cX2_gatherHearers 32 = .ok (.dup2, 1) := by decide +kernel
theorem dX2_gatherHearers_33 : decode cX2_gatherHearers 33 = .ok (.iaload, 1) := by decide +kernel
theorem dX2_gatherHearers_34 : decode cX2_gatherHearers 34 = .ok (.aload_n 1, 1) := by decide +kernel
theorem dX2_gatherHearers_35 : decode cX2_gatherHearers 35 = .ok (.iload_n 3, 1) := by decide +kernel
theorem dX2_gatherHearers_36 : decode cX2_gatherHearers 36 = .ok (.iload_n 2, 1) := by decide +kernel
theorem dX2_gatherHearers_37 : decode cX2_gatherHearers 37 = .ok (.invokevirtual 104, 3) := by decide +kernel
theorem dX2_gatherHearers_40 : decode cX2_gatherHearers 40 = .ok (.ifCond .eq 11, 3) := by decide +kernel
theorem dX2_gatherHearers_43 : decode cX2_gatherHearers 43 = .ok (.iconst 1, 1) := by decide +kernel
theorem dX2_gatherHearers_44 : decode cX2_gatherHearers 44 = .ok (.iconst 4, 1) := by decide +kernel
theorem dX2_gatherHearers_45 : decode cX2_gatherHearers 45 = .ok (.iload_n 3, 1) := by decide +kernel
theorem dX2_gatherHearers_46 : decode cX2_gatherHearers 46 = .ok (.imul, 1) := by decide +kernel
theorem dX2_gatherHearers_47 : decode cX2_gatherHearers 47 = .ok (.ishl, 1) := by decide +kernel
theorem dX2_gatherHearers_48 : decode cX2_gatherHearers 48 = .ok (.goto 4, 3) := by decide +kernel
theorem dX2_gatherHearers_51 : decode cX2_gatherHearers 51 = .ok (.iconst 0, 1) := by decide +kernel
theorem dX2_gatherHearers_52 : decode cX2_gatherHearers 52 = .ok (.ior, 1) := by decide +kernel
theorem dX2_gatherHearers_53 : decode cX2_gatherHearers 53 = .ok (.iastore, 1) := by decide +kernel
theorem dX2_gatherHearers_54 : decode cX2_gatherHearers 54 = .ok (.iinc 3 1, 3) := by decide +kernel
theorem dX2_gatherHearers_57 : decode cX2_gatherHearers 57 = .ok (.goto (-38), 3) := by decide +kernel
theorem dX2_gatherHearers_60 : decode cX2_gatherHearers 60 = .ok (.iinc 2 1, 3) := by decide +kernel
theorem dX2_gatherHearers_63 : decode cX2_gatherHearers 63 = .ok (.goto (-61), 3) := by decide +kernel
theorem dX2_gatherHearers_66 : decode cX2_gatherHearers 66 = .ok (.return_, 1) := by decide +kernel
theorem dX2_burdenOf_0 : decode cX2_burdenOf 0 = .ok (.iload_n 2, 1) := by decide +kernel
theorem dX2_burdenOf_1 : decode cX2_burdenOf 1 = .ok (.iconst 1, 1) := by decide +kernel
theorem dX2_burdenOf_2 : decode cX2_burdenOf 2 = .ok (.invokestatic 71, 3) := by decide +kernel
theorem dX2_burdenOf_5 : decode cX2_burdenOf 5 = .ok (.istore 4, 2) := by decide +kernel
theorem dX2_burdenOf_7 : decode cX2_burdenOf 7 = .ok (.iload_n 1, 1) := by decide +kernel
theorem dX2_burdenOf_8 : decode cX2_burdenOf 8 = .ok (.istore 5, 2) := by decide +kernel
theorem dX2_burdenOf_10 : decode cX2_burdenOf 10 = .ok (.iconst 0, 1) := by decide +kernel
theorem dX2_burdenOf_11 : decode cX2_burdenOf 11 = .ok (.istore 6, 2) := by decide +kernel
theorem dX2_burdenOf_13 : decode cX2_burdenOf 13 = .ok (.iload_n 3, 1) := by decide +kernel
theorem dX2_burdenOf_14 : decode cX2_burdenOf 14 = .ok (.iconst 1, 1) := by decide +kernel
theorem dX2_burdenOf_15 : decode cX2_burdenOf 15 = .ok (.isub, 1) := by decide +kernel
theorem dX2_burdenOf_16 : decode cX2_burdenOf 16 = .ok (.istore 7, 2) := by decide +kernel
theorem dX2_burdenOf_18 : decode cX2_burdenOf 18 = .ok (.iload 7, 2) := by decide +kernel
theorem dX2_burdenOf_20 : decode cX2_burdenOf 20 = .ok (.ifCond .lt 34, 3) := by decide +kernel
theorem dX2_burdenOf_23 : decode cX2_burdenOf 23 = .ok (.iload 6, 2) := by decide +kernel
theorem dX2_burdenOf_25 : decode cX2_burdenOf 25 = .ok (.aload_n 0, 1) := by decide +kernel
theorem dX2_burdenOf_26 : decode cX2_burdenOf 26 = .ok (.getfield 22, 3) := by decide +kernel
theorem dX2_burdenOf_29 : decode cX2_burdenOf 29 = .ok (.iload 5, 2) := by decide +kernel
theorem dX2_burdenOf_31 : decode cX2_burdenOf 31 = .ok (.iload 4, 2) := by decide +kernel
theorem dX2_burdenOf_33 : decode cX2_burdenOf 33 = .ok (.irem, 1) := by decide +kernel
theorem dX2_burdenOf_34 : decode cX2_burdenOf 34 = .ok (.iaload, 1) := by decide +kernel
theorem dX2_burdenOf_35 : decode cX2_burdenOf 35 = .ok (.iload 7, 2) := by decide +kernel
theorem dX2_burdenOf_37 : decode cX2_burdenOf 37 = .ok (.ishl, 1) := by decide +kernel
theorem dX2_burdenOf_38 : decode cX2_burdenOf 38 = .ok (.ior, 1) := by decide +kernel
theorem dX2_burdenOf_39 : decode cX2_burdenOf 39 = .ok (.istore 6, 2) := by decide +kernel
theorem dX2_burdenOf_41 : decode cX2_burdenOf 41 = .ok (.iload 5, 2) := by decide +kernel
theorem dX2_burdenOf_43 : decode cX2_burdenOf 43 = .ok (.iload 4, 2) := by decide +kernel
theorem dX2_burdenOf_45 : decode cX2_burdenOf 45 = .ok (.idiv, 1) := by decide +kernel
theorem dX2_burdenOf_46 : decode cX2_burdenOf 46 = .ok (.istore 5, 2) := by decide +kernel
theorem dX2_burdenOf_48 : decode cX2_burdenOf 48 = .ok (.iinc 7 (-1), 3) := by decide +kernel
theorem dX2_burdenOf_51 : decode cX2_burdenOf 51 = .ok (.goto (-33), 3) := by decide +kernel
theorem dX2_burdenOf_54 : decode cX2_burdenOf 54 = .ok (.iconst 0, 1) := by decide +kernel
theorem dX2_burdenOf_55 : decode cX2_burdenOf 55 = .ok (.istore 7, 2) := by decide +kernel
theorem dX2_burdenOf_57 : decode cX2_burdenOf 57 = .ok (.iconst 0, 1) := by decide +kernel
theorem dX2_burdenOf_58 : decode cX2_burdenOf 58 = .ok (.istore 8, 2) := by decide +kernel
theorem dX2_burdenOf_60 : decode cX2_burdenOf 60 = .ok (.iload 8, 2) := by decide +kernel
theorem dX2_burdenOf_62 : decode cX2_burdenOf 62 = .ok (.iload_n 2, 1) := by decide +kernel
end
section
section
/-! A SMALL MACHINE OVER THE MACHINE: values are mathematical integers and numbered references, memory is a function; each instruction is one rule of zGo; zCt is a method's contract -/
abbrev zV : Type := Int ⊕ (Int ⊕ Option Nat)
abbrev zI (x : Int) : zV := .inl x
abbrev zL (x : Int) : zV := .inr (.inl x)
abbrev zR (a : Nat) : zV := .inr (.inr (some a))
abbrev zN : zV := .inr (.inr none)
abbrev zM : Type := Nat → Int → zV
def zv (ad : Nat → Nat) : zV → Value
  | .inl x => .int (Int32.ofInt x)
  | .inr (.inl x) => .long (Int64.ofInt x)
  | .inr (.inr (some a)) => .ref (ad a)
  | .inr (.inr none) => .null
abbrev zB (x : Int) : Prop := -2147483648 ≤ x ∧ x < 2147483648
abbrev zB8 (x : Int) : Prop := -9223372036854775808 ≤ x ∧ x < 9223372036854775808
theorem zi_to {x : Int} (h : zB x) : (Int32.ofInt x).toInt = x := Int32.toInt_ofInt_of_le (by have := h.1; omega) (by have := h.2; omega)
theorem zi_lt {x y : Int} (hx : zB x) (hy : zB y) : Int32.ofInt x < Int32.ofInt y ↔ x < y := by rw [Int32.lt_iff_toInt_lt, zi_to hx, zi_to hy]
theorem zi_le {x y : Int} (hx : zB x) (hy : zB y) : Int32.ofInt x ≤ Int32.ofInt y ↔ x ≤ y := by rw [Int32.le_iff_toInt_le, zi_to hx, zi_to hy]
theorem zi_eq {x y : Int} (hx : zB x) (hy : zB y) : Int32.ofInt x = Int32.ofInt y ↔ x = y := by rw [← Int32.toInt_inj, zi_to hx, zi_to hy]
theorem zi_0 : (0 : Int32) = Int32.ofInt 0 := rfl
theorem zi_lt0 {x : Int} (hx : zB x) : Int32.ofInt x < 0 ↔ x < 0 := by rw [zi_0]; exact zi_lt hx (by decide)
theorem zi_0lt {x : Int} (hx : zB x) : 0 < Int32.ofInt x ↔ 0 < x := by rw [zi_0]; exact zi_lt (by decide) hx
theorem zi_le0 {x : Int} (hx : zB x) : Int32.ofInt x ≤ 0 ↔ x ≤ 0 := by rw [zi_0]; exact zi_le hx (by decide)
theorem zi_0le {x : Int} (hx : zB x) : 0 ≤ Int32.ofInt x ↔ 0 ≤ x := by rw [zi_0]; exact zi_le (by decide) hx
theorem zi_eq0 {x : Int} (hx : zB x) : Int32.ofInt x = 0 ↔ x = 0 := by rw [zi_0]; exact zi_eq hx (by decide)
theorem zi_nat {x : Int} (h0 : 0 ≤ x) (h : x < 2147483648) : (Int32.ofInt x).toNatClampNeg = x.toNat := Int32.toNatClampNeg_ofInt_of_le (by omega) (by omega)
theorem zi_in {x : Int} {n : Nat} (h0 : 0 ≤ x) (h : x < n) (h2 : x < 2147483648) : ¬ (Int32.ofInt x < 0 ∨ n ≤ (Int32.ofInt x).toNatClampNeg) := by
  rw [zi_nat h0 h2, zi_lt0 ⟨by omega, h2⟩]
  omega
theorem zi_nI (x : Int) (h0 : 0 ≤ x) : Int32.ofInt x = nI x.toNat := by
  have e : x = (x.toNat : Int) := by omega
  rw [e]
  exact Int32.ofInt_eq_ofNat
theorem zi_div {x y : Int} (h0 : 0 ≤ x) (h1 : x < 2147483648) (h2 : 0 < y) (h3 : y < 2147483648) : Int32.ofInt x / Int32.ofInt y = Int32.ofInt (x / y) := by
  obtain ⟨a, rfl⟩ : ∃ a : Nat, x = a := ⟨x.toNat, by omega⟩
  obtain ⟨b, rfl⟩ : ∃ b : Nat, y = b := ⟨y.toNat, by omega⟩
  have e := pk_div (a := a) (d := b) (by omega) (by omega) (by omega)
  rw [show (a : Int) / (b : Int) = ((a / b : Nat) : Int) from by simp]
  rw [Int32.ofInt_eq_ofNat, Int32.ofInt_eq_ofNat, Int32.ofInt_eq_ofNat]
  exact e
theorem zi_rem {x y : Int} (h0 : 0 ≤ x) (h1 : x < 2147483648) (h2 : 0 < y) (h3 : y < 2147483648) : Int32.ofInt x - Int32.ofInt x / Int32.ofInt y * Int32.ofInt y = Int32.ofInt (x % y) := by
  obtain ⟨a, rfl⟩ : ∃ a : Nat, x = a := ⟨x.toNat, by omega⟩
  obtain ⟨b, rfl⟩ : ∃ b : Nat, y = b := ⟨y.toNat, by omega⟩
  have e := pk_rem (a := a) (d := b) (by omega) (by omega) (by omega)
  rw [show (a : Int) % (b : Int) = ((a % b : Nat) : Int) from by simp]
  rw [Int32.ofInt_eq_ofNat, Int32.ofInt_eq_ofNat, Int32.ofInt_eq_ofNat]
  exact e
theorem zl_to {x : Int} (h : zB8 x) : (Int64.ofInt x).toInt = x := Int64.toInt_ofInt_of_le (by have := h.1; omega) (by have := h.2; omega)
theorem zl_lt {x y : Int} (hx : zB8 x) (hy : zB8 y) : Int64.ofInt x < Int64.ofInt y ↔ x < y := by rw [Int64.lt_iff_toInt_lt, zl_to hx, zl_to hy]
theorem zl_eq {x y : Int} (hx : zB8 x) (hy : zB8 y) : Int64.ofInt x = Int64.ofInt y ↔ x = y := by rw [← Int64.toInt_inj, zl_to hx, zl_to hy]
theorem zl_div {x y : Int} (h0 : 0 ≤ x) (h1 : x < 9223372036854775808) (h2 : 0 < y) (h3 : y < 9223372036854775808) : Int64.ofInt x / Int64.ofInt y = Int64.ofInt (x / y) := by
  obtain ⟨a, rfl⟩ : ∃ a : Nat, x = a := ⟨x.toNat, by omega⟩
  obtain ⟨b, rfl⟩ : ∃ b : Nat, y = b := ⟨y.toNat, by omega⟩
  have e := pk_lDiv (a := a) (b := b) (by omega) (by omega) (by omega)
  rw [show (a : Int) / (b : Int) = ((a / b : Nat) : Int) from by simp]
  rw [Int64.ofInt_eq_ofNat, Int64.ofInt_eq_ofNat, Int64.ofInt_eq_ofNat]
  exact e
theorem zl_rem {x y : Int} (h0 : 0 ≤ x) (h1 : x < 9223372036854775808) (h2 : 0 < y) (h3 : y < 9223372036854775808) : Int64.ofInt x - Int64.ofInt x / Int64.ofInt y * Int64.ofInt y = Int64.ofInt (x % y) := by
  obtain ⟨a, rfl⟩ : ∃ a : Nat, x = a := ⟨x.toNat, by omega⟩
  obtain ⟨b, rfl⟩ : ∃ b : Nat, y = b := ⟨y.toNat, by omega⟩
  have e := pk_lRem (a := a) (b := b) (by omega) (by omega) (by omega)
  rw [show (a : Int) % (b : Int) = ((a % b : Nat) : Int) from by simp]
  rw [Int64.ofInt_eq_ofNat, Int64.ofInt_eq_ofNat, Int64.ofInt_eq_ofNat]
  exact e
theorem zl_of {x : Int} (h : zB x) : (Int32.ofInt x).toInt64 = Int64.ofInt x := by
  apply Int64.toInt_inj.mp
  rw [Int32.toInt_toInt64, zi_to h, zl_to ⟨by omega, by omega⟩]
theorem zl_cut {x : Int} : (Int64.ofInt x).toInt32 = Int32.ofInt x := by
  apply Int32.toBitVec.inj
  simp
/-! words: those of the tables that a call may carry -/
def ztb : List Cond := lw_tbl.filter goodWord
theorem zt_in {w : Cond} (h : w ∈ lw_tbl) (g : goodWord w = true) : w ∈ ztb := List.mem_filter.mpr ⟨h, g⟩
theorem zt_sub {w : Cond} (h : w ∈ ztb) : w ∈ lw_tbl := (List.mem_filter.mp h).1
theorem zt_good (y : MethodName) {b : ByteArray} {n : Nat} {r : Option FieldType} (h : Cond.code y b n r ∈ ztb) : GoodIn ztb (Cond.code y b n r :: ztb) := by
  intro w hw
  rcases List.mem_cons.mp hw with rfl | hw
  · exact ⟨h, good_of_word (List.mem_filter.mp h).2⟩
  · exact ⟨hw, good_of_word (List.mem_filter.mp hw).2⟩
/-! contexts -/
abbrev zC : Type := va_G × (Nat → Nat) × (Nat → Nat × Nat) × Nat
abbrev zD (C : zC) : va_G := C.1
abbrev zad (C : zC) : Nat → Nat := C.2.1
abbrev zsh (C : zC) : Nat → Nat × Nat := C.2.2.1
abbrev zz (C : zC) : Nat := C.2.2.2
abbrev zMt : Type := MethodName × ByteArray × Nat × Option FieldType
def zTy : Nat → FieldType
  | 1 => .int
  | 2 => .boolean
  | 3 => .object "DrumPeace$Town"
  | 4 => .array .int
  | _ => .byte
/-- an array of a type; of references, too, by its own name -/
def zIs (U : State) (cell : Cell) (ty : FieldType) : Prop := U.isArrayOf cell ty ∧ ∀ Cn : String, ty = .object Cn → U.vm.findClass ("[" ++ (FieldType.object Cn).toString) = some cell.cls
theorem zIs.moved {u U : State} {cell : Cell} {ty : FieldType} (hvm : u.vm.Alike U.vm) (h : zIs u cell ty) : zIs U cell ty :=
  ⟨State.isArrayOf_alike hvm h.1, fun Cn e => by rw [hvm.findClass]; exact h.2 Cn e⟩
def zArr (ad : Nat → Nat) (U : State) (ty : FieldType) (n q : Nat) (f : Int → zV) (H : Heap) : Prop :=
  ∃ cell : Cell, H[q]? = some cell ∧ zIs U cell ty ∧ cell.vm ≠ .unknown ∧ cell.slots.size = n ∧ ∀ j : Nat, j < n → cell.slots[j]? = some (zv ad (f (j : Int)))
def zObj (D : va_G) (ad : Nat → Nat) (ci q : Nat) (f : Int → zV) (H : Heap) : Prop :=
  ∃ r : vw_C, vwCl[ci]? = some r ∧ t_OB q (D.1 ci) r.2.2 (D.2 ci) H (fun k => zv ad (f (k : Int)))
def zCell (C : zC) (U : State) (k : Nat × Nat) (q : Nat) (f : Int → zV) (H : Heap) : Prop :=
  (0 < k.1 → k.1 < 10 → zArr (zad C) U (zTy k.1) k.2 q f H) ∧ (10 ≤ k.1 → zObj (zD C) (zad C) (k.1 - 10) q f H)
abbrev zA (C : zC) : Nat → Prop := fun q => zz C ≤ q
/-- what was there before: three tables of ints behind statics, a flag, a text -/
def zOld (C : zC) (U : State) (H : Heap) : Prop :=
  va_Z "DrumPeace$Asks" "IS_ONE" "[I" (.ref (zad C 1)) (zA C) U H ∧ va_Z "DrumPeace$Asks" "SIZE_BODIES" "[I" (.ref (zad C 2)) (zA C) U H ∧ va_Z "DrumPeace$Asks" "MARK_BODIES" "[I" (.ref (zad C 3)) (zA C) U H ∧
  va_Z "java/lang/String" "COMPACT_STRINGS" "Z" (.int 1) (zA C) U H ∧ vk_S 1 [5] [[97, 110, 103, 116, 112]] (fun _ => zad C 4) (fun _ => zad C 5) (zA C) U H
def zHp (C : zC) (U : State) (n : Nat) (σ : zM) (H : Heap) : Prop :=
  H.size = zz C + n ∧ zOld C U H ∧ ∀ a, a < 8 + n → zCell C U (zsh C a) (zad C a) (σ a) H
def zNest : List Cond := [.methodLinkNest "DrumPeace" 18 ⟨"DrumPeace$Tape", "<init>", "()V"⟩ "DrumPeace", .methodLinkNest "DrumPeace" 25 ⟨"DrumPeace$Town", "<init>", "()V"⟩ "DrumPeace", .methodLinkNest "DrumPeace$Acts" 15 ⟨"DrumPeace$Town", "<init>", "()V"⟩ "DrumPeace", .methodLinkNest "DrumPeace" 48 ⟨"DrumPeace$Foresight", "<init>", "()V"⟩ "DrumPeace", .methodLinkNest "DrumPeace$Foresight" 13 ⟨"DrumPeace$Town", "<init>", "()V"⟩ "DrumPeace", .methodLinkNest "DrumPeace" 55 ⟨"DrumPeace$Asks", "<init>", "()V"⟩ "DrumPeace"]
def zKs (C : zC) (U : State) : Prop :=
  (∀ a, 8 ≤ a → zad C a = zz C + (a - 8)) ∧ (∀ a, a < 8 → zad C a < zz C) ∧ va_K (zD C) vwCl [] U ∧ (∀ w ∈ zNest, va_Nw w U) ∧ vk_R "DrumPeace$Tape" 52 "angtp" (zad C 4) U ∧
  va_AO "DrumPeace$Town" U ∧ (Cond.arrayOver (.array .int)).before #[] U = true
theorem zArr.moved {ad : Nat → Nat} {u U : State} {ty : FieldType} {n q : Nat} {f : Int → zV} {H : Heap} (hvm : u.vm.Alike U.vm) (h : zArr ad u ty n q f H) : zArr ad U ty n q f H := by
  obtain ⟨cell, h1, h2, h3⟩ := h
  exact ⟨cell, h1, h2.moved hvm, h3⟩
theorem zCell.moved {C : zC} {u U : State} {k : Nat × Nat} {q : Nat} {f : Int → zV} {H : Heap} (hvm : u.vm.Alike U.vm) (h : zCell C u k q f H) : zCell C U k q f H :=
  ⟨fun a b => (h.1 a b).moved hvm, h.2⟩
theorem zOld.moved {C : zC} {u U : State} {H : Heap} (hvm : u.vm.Alike U.vm) (h : zOld C u H) : zOld C U H :=
  ⟨h.1.moved hvm, h.2.1.moved hvm, h.2.2.1.moved hvm, h.2.2.2.1.moved hvm, h.2.2.2.2.moved hvm⟩
theorem zOld.kept {C : zC} {U : State} {H H1 : Heap} (h : zOld C U H) (hq : ∀ a : Nat, a < H.size → ¬ zA C a → H1[a]? = H[a]?) : zOld C U H1 :=
  ⟨h.1.kept hq, h.2.1.kept hq, h.2.2.1.kept hq, h.2.2.2.1.kept hq, h.2.2.2.2.kept hq⟩
theorem zHp.moved {C : zC} {u U : State} {n : Nat} {σ : zM} {H : Heap} (hvm : u.vm.Alike U.vm) (h : zHp C u n σ H) : zHp C U n σ H :=
  ⟨h.1, h.2.1.moved hvm, fun a ha => (h.2.2 a ha).moved hvm⟩
theorem zArr.kept {ad : Nat → Nat} {U : State} {ty : FieldType} {n q : Nat} {f : Int → zV} {H H1 : Heap} (h : zArr ad U ty n q f H) (hq : H1[q]? = H[q]?) : zArr ad U ty n q f H1 := by
  obtain ⟨cell, h1, h2⟩ := h
  exact ⟨cell, by rw [hq]; exact h1, h2⟩
theorem zObj.kept {D : va_G} {ad : Nat → Nat} {ci q : Nat} {f : Int → zV} {H H1 : Heap} (h : zObj D ad ci q f H) (hq : H1[q]? = H[q]?) : zObj D ad ci q f H1 := by
  obtain ⟨r, h1, h2⟩ := h
  exact ⟨r, h1, h2.kept hq⟩
theorem zCell.kept {C : zC} {U : State} {k : Nat × Nat} {q : Nat} {f : Int → zV} {H H1 : Heap} (h : zCell C U k q f H) (hq : H1[q]? = H[q]?) : zCell C U k q f H1 :=
  ⟨fun a b => (h.1 a b).kept hq, fun a => (h.2 a).kept hq⟩
theorem zKs.warm {C : zC} {s U : State} (hW : s.WarmedH U.vm) (h : zKs C s) : zKs C U := by
  obtain ⟨h1, h2, h3, h4, h5, h6, h7⟩ := h
  refine ⟨h1, h2, va_K.moved hW.alike h3, fun w hw => ?_, h5.warm hW, h6.moved hW.alike, over_moved hW.alike h7⟩
  have hz := h4 w hw
  simp only [zNest, List.mem_cons, List.not_mem_nil, or_false] at hw
  rcases hw with rfl | rfl | rfl | rfl | rfl | rfl <;> exact va_Nw.warmM hW hz
theorem zKs.same {C : zC} {u U : State} (hv : u.vm = U.vm) (h : zKs C u) : zKs C U := by
  obtain ⟨h1, h2, h3, h4, h5, h6, h7⟩ := h
  have ha : u.vm.Alike U.vm := by rw [hv]; exact Vm.Alike.refl _
  refine ⟨h1, h2, va_K.moved ha h3, fun w hw => ?_, h5.same hv.symm, h6.moved ha, over_moved ha h7⟩
  have hz := h4 w hw
  simp only [zNest, List.mem_cons, List.not_mem_nil, or_false] at hw
  rcases hw with rfl | rfl | rfl | rfl | rfl | rfl <;> exact va_Nw.same rfl hv hz
/-! one cell is written -/
def zup (σ : zM) (a : Nat) (x : Int) (v : zV) : zM := fun b y => if b = a ∧ y = x then v else σ b y
theorem zad_ne {C : zC} {U : State} (hK : zKs C U) {a b : Nat} (ha : 8 ≤ a) (h : b ≠ a) : zad C b ≠ zad C a := by
  rw [hK.1 a ha]
  rcases Nat.lt_or_ge b 8 with hb | hb
  · have := hK.2.1 b hb
    omega
  · rw [hK.1 b hb]
    omega
theorem zHp.set {C : zC} {U : State} {n : Nat} {σ : zM} {H H1 : Heap} (hK : zKs C U) (h : zHp C U n σ H) {a : Nat} (ha : 8 ≤ a) (hz : H1.size = H.size) (oq : ∀ q : Nat, q ≠ zad C a → H1[q]? = H[q]?) {σ' : zM} (hs : ∀ b, b ≠ a → σ' b = σ b) (hc : zCell C U (zsh C a) (zad C a) (σ' a) H1) : zHp C U n σ' H1 := by
  refine ⟨by rw [hz]; exact h.1, h.2.1.kept fun q _ hq => oq q ?_, fun b hb => ?_⟩
  · intro e
    apply hq
    rw [e, hK.1 a ha]
    exact Nat.le_add_right _ _
  · by_cases hba : b = a
    · subst hba
      exact hc
    · rw [hs b hba]
      exact (h.2.2 b hb).kept (oq _ (zad_ne hK ha hba))
/-! locals by their places -/
def zLoc (ad : Nat → Nat) (nL : Nat) (la : Array Slot) (ls : List (Option zV)) : Prop := la.size = nL ∧ lv_wf la ∧ ∀ (i : Nat) (v : zV), ls[i]? = some (some v) → la[i]? = some (.val (zv ad v))
def zas (ad : Nat → Nat) (ls : List (Option zV)) : List (Nat × Value) := ls.zipIdx.filterMap (fun q => q.1.map (fun v => (q.2, zv ad v)))
theorem zas_in {ad : Nat → Nat} {ls : List (Option zV)} {j : Nat} {w : zV} (h : ls[j]? = some (some w)) : (j, zv ad w) ∈ zas ad ls :=
  List.mem_filterMap.mpr ⟨(some w, j), List.mem_zipIdx_iff_getElem?.mpr h, rfl⟩
theorem zLoc.has {ad : Nat → Nat} {nL : Nat} {la : Array Slot} {ls : List (Option zV)} (h : zLoc ad nL la ls) : lv_has la nL (zas ad ls) := by
  refine ⟨h.1, h.2.1, fun q hq => ?_⟩
  obtain ⟨⟨o, i⟩, h1, h2⟩ := List.mem_filterMap.mp hq
  have h3 := List.mem_zipIdx_iff_getElem?.mp h1
  cases o with
  | none => cases h2
  | some v =>
    cases h2
    exact h.2.2 i v h3
def zkill (ls : List (Option zV)) : Nat → List (Option zV)
  | 0 => ls
  | j + 1 => match ls[j]? with
    | some (some (.inr (.inl _))) => ls.set j none
    | _ => ls
def zst1 (ls : List (Option zV)) (i : Nat) (v : zV) : List (Option zV) := (zkill ls i).set i (some v)
def zst2 (ls : List (Option zV)) (i : Nat) (v : zV) : List (Option zV) := ((zkill ls i).set i (some v)).set (i + 1) none
theorem zkill_at {ls : List (Option zV)} {i j : Nat} {w : zV} (h : (zkill ls i)[j]? = some (some w)) : ls[j]? = some (some w) ∧ (j + 1 = i → ∀ x, w ≠ zL x) := by
  cases i with
  | zero => exact ⟨h, fun e => by omega⟩
  | succ k =>
    simp only [zkill] at h
    split at h
    next x hx =>
      by_cases e : j = k
      · subst e
        rw [List.getElem?_set_self (List.getElem?_eq_some_iff.mp hx).1] at h
        cases h
      · rw [List.getElem?_set_ne (Ne.symm e)] at h
        exact ⟨h, fun q => by omega⟩
    next hx =>
      refine ⟨h, fun e x ex => ?_⟩
      have : j = k := by omega
      subst this
      subst ex
      exact hx x h
theorem zcat2 {ad : Nat → Nat} {w : zV} (h : (zv ad w).category = 2) : ∃ x, w = zL x := by
  match w with
  | .inl x => simp [zv, Value.category] at h
  | .inr (.inl x) => exact ⟨x, rfl⟩
  | .inr (.inr (some a)) => simp [zv, Value.category] at h
  | .inr (.inr none) => simp [zv, Value.category] at h
theorem zLoc.st1 {ad : Nat → Nat} {nL : Nat} {la' : Array Slot} {ls : List (Option zV)} {i : Nat} {v : zV} (h' : lv_has la' nL ((i, zv ad v) :: (zas ad ls).filter (fun q => !(q.1 == i) && !(q.1 + 1 == i && q.2.category == 2)))) : zLoc ad nL la' (zst1 ls i v) := by
  refine ⟨h'.1, h'.2.1, fun j w hj => ?_⟩
  by_cases e : j = i
  · subst e
    have hl : j < (zkill ls j).length := by
      have := (List.getElem?_eq_some_iff.mp hj).1
      simpa [zst1] using this
    rw [zst1, List.getElem?_set_self hl] at hj
    cases hj
    exact h'.2.2 _ List.mem_cons_self
  · rw [zst1, List.getElem?_set_ne (Ne.symm e)] at hj
    obtain ⟨h1, h2⟩ := zkill_at hj
    refine h'.2.2 (j, zv ad w) (List.mem_cons_of_mem _ (List.mem_filter.mpr ⟨zas_in h1, ?_⟩))
    simp only [Bool.and_eq_true, Bool.not_eq_true', beq_eq_false_iff_ne, Bool.and_eq_false_iff]
    refine ⟨e, ?_⟩
    by_cases e2 : j + 1 = i
    · right
      intro hc
      obtain ⟨x, hx⟩ := zcat2 hc
      exact h2 e2 x hx
    · left
      exact e2
theorem zLoc.st2 {ad : Nat → Nat} {nL : Nat} {la' : Array Slot} {ls : List (Option zV)} {i : Nat} {v : zV} (h' : lv_has la' nL ((i, zv ad v) :: (zas ad ls).filter (fun q => !(q.1 == i) && (!(q.1 == i + 1) && !(q.1 + 1 == i && q.2.category == 2))))) : zLoc ad nL la' (zst2 ls i v) := by
  refine ⟨h'.1, h'.2.1, fun j w hj => ?_⟩
  by_cases e1 : j = i + 1
  · subst e1
    by_cases hl : i + 1 < ((zkill ls i).set i (some v)).length
    · rw [zst2, List.getElem?_set_self hl] at hj
      cases hj
    · rw [zst2, List.getElem?_eq_none (by rw [List.length_set]; omega)] at hj
      cases hj
  · rw [zst2, List.getElem?_set_ne (Ne.symm e1)] at hj
    by_cases e : j = i
    · subst e
      have hl : j < (zkill ls j).length := by
        have := (List.getElem?_eq_some_iff.mp hj).1
        simpa using this
      rw [List.getElem?_set_self hl] at hj
      cases hj
      exact h'.2.2 _ List.mem_cons_self
    · rw [List.getElem?_set_ne (Ne.symm e)] at hj
      obtain ⟨h1, h2⟩ := zkill_at hj
      refine h'.2.2 (j, zv ad w) (List.mem_cons_of_mem _ (List.mem_filter.mpr ⟨zas_in h1, ?_⟩))
      simp only [Bool.and_eq_true, Bool.not_eq_true', beq_eq_false_iff_ne, Bool.and_eq_false_iff]
      refine ⟨e, e1, ?_⟩
      by_cases e2 : j + 1 = i
      · right
        intro hc
        obtain ⟨x, hx⟩ := zcat2 hc
        exact h2 e2 x hx
      · left
        exact e2
/-! the judgement -/
def zFix (C : zC) (M : zMt) (d : Nat) (p : Program) (R : Room) (MC MS : Nat) (s : State) (m : MethodId) (args : Array Value) (meth : Method) (c : Code) : Prop :=
  p.tables.exec = Jvm.exec ∧ c.code = M.2.1 ∧ c.maxLocals = M.2.2.1 ∧ s.vm.findClass M.1.cls = some m.cls ∧ (∀ w ∈ ztb, w.before args s = true) ∧ zKs C s ∧ d ≤ R.frames ∧ 200 * d ≤ R.locals ∧ MC ≤ R.cells ∧ MS ≤ R.slots ∧ meth.name = M.1.name
def zRet (M : zMt) (pc : Nat) (v : Option zV) : Prop :=
  (v = none ∧ M.2.2.2 = none ∧ decode M.2.1 pc = .ok (.return_, 1)) ∨ (∃ x, v = some (zI x) ∧ decode M.2.1 pc = .ok (.ireturn, 1) ∧ (M.2.2.2 = some .int ∨ (M.2.2.2 = some .boolean ∧ (x = 0 ∨ x = 1)) ∨ (M.2.2.2 = some .byte ∧ x = 0))) ∨
  (∃ a, v = some (zR a) ∧ decode M.2.1 pc = .ok (.areturn, 1) ∧ ∃ n, M.2.2.2 = some (.object n))
def zFin (l : Launch) (C : zC) (M : zMt) (p : Program) (e : Env) (R : Room) (MC MS : Nat) (s : State) (m : MethodId) (args : Array Value) (below : List Frame) (meth : Method) (c : Code) (Z : State → Prop) (Q : Option zV → Nat → zM → Prop) : Prop :=
  ∀ (v : Option zV) (n : Nat) (σ : zM) (H : Heap) (locs : List Loc) (cells slots pc : Nat) (la : Array Slot), Q v n σ → zHp C s n σ H → (∀ q ∈ locs, zz C ≤ q.base) → cells ≤ MC → slots ≤ MS → zRet M pc v →
    W p l e R s m args below meth c H locs cells slots Z (F0 m pc la (v.toList.map (zv (zad C))))
def zGo (l : Launch) (C : zC) (M : zMt) (d mc ms pc : Nat) (ls : List (Option zV)) (st : List zV) (n : Nat) (σ : zM) (Q : Option zV → Nat → zM → Prop) : Prop :=
  ∀ (p : Program) (e : Env) (R : Room) (MC MS : Nat) (s : State) (m : MethodId) (args : Array Value) (below : List Frame) (meth : Method) (c : Code) (Z : State → Prop),
    zFix C M d p R MC MS s m args meth c → zFin l C M p e R MC MS s m args below meth c Z Q →
    ∀ (H : Heap) (locs : List Loc) (cells slots : Nat) (la : Array Slot), zHp C s n σ H → (∀ q ∈ locs, zz C ≤ q.base) → cells + mc ≤ MC → slots + ms ≤ MS → zLoc (zad C) M.2.2.1 la ls →
      W p l e R s m args below meth c H locs cells slots Z (F0 m pc la (st.map (zv (zad C))))
end
end
section
section
variable {l : Launch} {C : zC} {M : zMt} {d mc ms pc : Nat} {ls : List (Option zV)} {st : List zV} {n : Nat} {σ : zM} {Q : Option zV → Nat → zM → Prop}
theorem g_iconst {i x : Int} (hv : i = x) (hdg : decode M.2.1 pc = .ok (.iconst i, 1)) (k : zGo l C M d mc ms (pc + 1) ls (zI x :: st) n σ Q) : zGo l C M d mc ms pc ls (st) n σ Q := by
  intro p e R MC MS s m args below meth c Z F E H locs cells slots la hH hL hc hs hl
  refine lv_iconst (v := Int32.ofInt x) F.1 F.2.1 hdg (by rw [hv]) ?_
  exact k p e R MC MS s m args below meth c Z F E H locs cells slots la hH hL hc hs hl
theorem g_bipush {i x : Int} (hv : (Int8.ofInt i).toInt32 = Int32.ofInt x) (hdg : decode M.2.1 pc = .ok (.bipush i, 2)) (k : zGo l C M d mc ms (pc + 2) ls (zI x :: st) n σ Q) : zGo l C M d mc ms pc ls (st) n σ Q := by
  intro p e R MC MS s m args below meth c Z F E H locs cells slots la hH hL hc hs hl
  refine lv_bipush F.1 F.2.1 hdg hv ?_
  exact k p e R MC MS s m args below meth c Z F E H locs cells slots la hH hL hc hs hl
theorem g_sipush {i x : Int} (hv : (Int16.ofInt i).toInt32 = Int32.ofInt x) (hdg : decode M.2.1 pc = .ok (.sipush i, 3)) (k : zGo l C M d mc ms (pc + 3) ls (zI x :: st) n σ Q) : zGo l C M d mc ms pc ls (st) n σ Q := by
  intro p e R MC MS s m args below meth c Z F E H locs cells slots la hH hL hc hs hl
  refine lv_sipush F.1 F.2.1 hdg hv ?_
  exact k p e R MC MS s m args below meth c Z F E H locs cells slots la hH hL hc hs hl
theorem g_lconst {i : Fin 2} {x : Int} (hv : Int64.ofNat (i : Nat) = Int64.ofInt x) (hdg : decode M.2.1 pc = .ok (.lconst i, 1)) (k : zGo l C M d mc ms (pc + 1) ls (zL x :: st) n σ Q) : zGo l C M d mc ms pc ls (st) n σ Q := by
  intro p e R MC MS s m args below meth c Z F E H locs cells slots la hH hL hc hs hl
  refine lv_lconst F.1 F.2.1 hdg hv ?_
  exact k p e R MC MS s m args below meth c Z F E H locs cells slots la hH hL hc hs hl
theorem g_ldc {i : Nat} {v : Int32} {x : Int} (hw : Cond.constant M.1.cls i v ∈ ztb) (hv : v = Int32.ofInt x) (hdg : decode M.2.1 pc = .ok (.ldc i, 2)) (k : zGo l C M d mc ms (pc + 2) ls (zI x :: st) n σ Q) : zGo l C M d mc ms pc ls (st) n σ Q := by
  intro p e R MC MS s m args below meth c Z F E H locs cells slots la hH hL hc hs hl
  refine lv_ldc (v := Int32.ofInt x) F.1 F.2.1 F.2.2.2.1 (by rw [← hv]; exact F.2.2.2.2.1 _ hw) hdg ?_
  exact k p e R MC MS s m args below meth c Z F E H locs cells slots la hH hL hc hs hl
theorem g_ldcw {i : Nat} {v : Int32} {x : Int} (hw : Cond.constant M.1.cls i v ∈ ztb) (hv : v = Int32.ofInt x) (hdg : decode M.2.1 pc = .ok (.ldc_w i, 3)) (k : zGo l C M d mc ms (pc + 3) ls (zI x :: st) n σ Q) : zGo l C M d mc ms pc ls (st) n σ Q := by
  intro p e R MC MS s m args below meth c Z F E H locs cells slots la hH hL hc hs hl
  refine lv_ldcw (v := Int32.ofInt x) F.1 F.2.1 F.2.2.2.1 (by rw [← hv]; exact F.2.2.2.2.1 _ hw) hdg ?_
  exact k p e R MC MS s m args below meth c Z F E H locs cells slots la hH hL hc hs hl
theorem g_ldc2 {i : Nat} {v : Int64} {x : Int} (hw : Cond.constantLong M.1.cls i v ∈ ztb) (hv : v = Int64.ofInt x) (hdg : decode M.2.1 pc = .ok (.ldc2_w i, 3)) (k : zGo l C M d mc ms (pc + 3) ls (zL x :: st) n σ Q) : zGo l C M d mc ms pc ls (st) n σ Q := by
  intro p e R MC MS s m args below meth c Z F E H locs cells slots la hH hL hc hs hl
  refine lv_ldc2 (v := Int64.ofInt x) F.1 F.2.1 F.2.2.2.1 (by rw [← hv]; exact F.2.2.2.2.1 _ hw) hdg ?_
  exact k p e R MC MS s m args below meth c Z F E H locs cells slots la hH hL hc hs hl
theorem g_iload_n {i : Fin 4} {x : Int} (hv : ls[(i : Nat)]? = some (some (zI x))) (hdg : decode M.2.1 pc = .ok (.iload_n i, 1)) (k : zGo l C M d mc ms (pc + 1) ls (zI x :: st) n σ Q) : zGo l C M d mc ms pc ls (st) n σ Q := by
  intro p e R MC MS s m args below meth c Z F E H locs cells slots la hH hL hc hs hl
  refine lv_iload_n F.1 F.2.1 hdg rfl (hl.2.2 _ _ hv) ?_
  exact k p e R MC MS s m args below meth c Z F E H locs cells slots la hH hL hc hs hl
theorem g_iload {i : Nat} {x : Int} (hv : ls[i]? = some (some (zI x))) (hdg : decode M.2.1 pc = .ok (.iload i, 2)) (k : zGo l C M d mc ms (pc + 2) ls (zI x :: st) n σ Q) : zGo l C M d mc ms pc ls (st) n σ Q := by
  intro p e R MC MS s m args below meth c Z F E H locs cells slots la hH hL hc hs hl
  refine lv_iload F.1 F.2.1 hdg (hl.2.2 _ _ hv) ?_
  exact k p e R MC MS s m args below meth c Z F E H locs cells slots la hH hL hc hs hl
theorem g_lload_n {i : Fin 4} {x : Int} (hv : ls[(i : Nat)]? = some (some (zL x))) (hdg : decode M.2.1 pc = .ok (.lload_n i, 1)) (k : zGo l C M d mc ms (pc + 1) ls (zL x :: st) n σ Q) : zGo l C M d mc ms pc ls (st) n σ Q := by
  intro p e R MC MS s m args below meth c Z F E H locs cells slots la hH hL hc hs hl
  refine lv_lload_n F.1 F.2.1 hdg rfl (hl.2.2 _ _ hv) ?_
  exact k p e R MC MS s m args below meth c Z F E H locs cells slots la hH hL hc hs hl
theorem g_lload {i : Nat} {x : Int} (hv : ls[i]? = some (some (zL x))) (hdg : decode M.2.1 pc = .ok (.lload i, 2)) (k : zGo l C M d mc ms (pc + 2) ls (zL x :: st) n σ Q) : zGo l C M d mc ms pc ls (st) n σ Q := by
  intro p e R MC MS s m args below meth c Z F E H locs cells slots la hH hL hc hs hl
  refine lv_lload F.1 F.2.1 hdg (hl.2.2 _ _ hv) ?_
  exact k p e R MC MS s m args below meth c Z F E H locs cells slots la hH hL hc hs hl
theorem g_aload_n {i : Fin 4} {x : Nat} (hv : ls[(i : Nat)]? = some (some (zR x))) (hdg : decode M.2.1 pc = .ok (.aload_n i, 1)) (k : zGo l C M d mc ms (pc + 1) ls (zR x :: st) n σ Q) : zGo l C M d mc ms pc ls (st) n σ Q := by
  intro p e R MC MS s m args below meth c Z F E H locs cells slots la hH hL hc hs hl
  refine lv_aload_n F.1 F.2.1 hdg rfl (hl.2.2 _ _ hv) ?_
  exact k p e R MC MS s m args below meth c Z F E H locs cells slots la hH hL hc hs hl
theorem g_aload {i : Nat} {x : Nat} (hv : ls[i]? = some (some (zR x))) (hdg : decode M.2.1 pc = .ok (.aload i, 2)) (k : zGo l C M d mc ms (pc + 2) ls (zR x :: st) n σ Q) : zGo l C M d mc ms pc ls (st) n σ Q := by
  intro p e R MC MS s m args below meth c Z F E H locs cells slots la hH hL hc hs hl
  refine lv_aload F.1 F.2.1 hdg (hl.2.2 _ _ hv) ?_
  exact k p e R MC MS s m args below meth c Z F E H locs cells slots la hH hL hc hs hl
theorem g_istore_n {i : Fin 4} {x : Int} {ls' : List (Option zV)} (hdg : decode M.2.1 pc = .ok (.istore_n i, 1)) (hn : (i : Nat) < M.2.2.1) (hls : zst1 ls (i : Nat) (zI x) = ls') (k : zGo l C M d mc ms (pc + 1) ls' st n σ Q) : zGo l C M d mc ms pc ls (zI x :: st) n σ Q := by
  intro p e R MC MS s m args below meth c Z F E H locs cells slots la hH hL hc hs hl
  refine lv_istore_n (lv := zas (zad C) ls) F.1 F.2.1 hdg rfl hl.has hn rfl fun la' h' => ?_
  subst hls
  exact k p e R MC MS s m args below meth c Z F E H locs cells slots la' hH hL hc hs (zLoc.st1 h')
theorem g_istore {i : Nat} {x : Int} {ls' : List (Option zV)} (hdg : decode M.2.1 pc = .ok (.istore i, 2)) (hn : i < M.2.2.1) (hls : zst1 ls i (zI x) = ls') (k : zGo l C M d mc ms (pc + 2) ls' st n σ Q) : zGo l C M d mc ms pc ls (zI x :: st) n σ Q := by
  intro p e R MC MS s m args below meth c Z F E H locs cells slots la hH hL hc hs hl
  refine lv_istore (lv := zas (zad C) ls) F.1 F.2.1 hdg hl.has hn rfl fun la' h' => ?_
  subst hls
  exact k p e R MC MS s m args below meth c Z F E H locs cells slots la' hH hL hc hs (zLoc.st1 h')
theorem g_lstore_n {i : Fin 4} {x : Int} {ls' : List (Option zV)} (hdg : decode M.2.1 pc = .ok (.lstore_n i, 1)) (hn : (i : Nat) + 1 < M.2.2.1) (hls : zst2 ls (i : Nat) (zL x) = ls') (k : zGo l C M d mc ms (pc + 1) ls' st n σ Q) : zGo l C M d mc ms pc ls (zL x :: st) n σ Q := by
  intro p e R MC MS s m args below meth c Z F E H locs cells slots la hH hL hc hs hl
  refine lv_lstore_n (lv := zas (zad C) ls) F.1 F.2.1 hdg rfl hl.has hn rfl fun la' h' => ?_
  subst hls
  exact k p e R MC MS s m args below meth c Z F E H locs cells slots la' hH hL hc hs (zLoc.st2 h')
theorem g_lstore {i : Nat} {x : Int} {ls' : List (Option zV)} (hdg : decode M.2.1 pc = .ok (.lstore i, 2)) (hn : i + 1 < M.2.2.1) (hls : zst2 ls i (zL x) = ls') (k : zGo l C M d mc ms (pc + 2) ls' st n σ Q) : zGo l C M d mc ms pc ls (zL x :: st) n σ Q := by
  intro p e R MC MS s m args below meth c Z F E H locs cells slots la hH hL hc hs hl
  refine lv_lstore (lv := zas (zad C) ls) F.1 F.2.1 hdg hl.has hn rfl fun la' h' => ?_
  subst hls
  exact k p e R MC MS s m args below meth c Z F E H locs cells slots la' hH hL hc hs (zLoc.st2 h')
theorem g_astore_n {i : Fin 4} {x : Nat} {ls' : List (Option zV)} (hdg : decode M.2.1 pc = .ok (.astore_n i, 1)) (hn : (i : Nat) < M.2.2.1) (hls : zst1 ls (i : Nat) (zR x) = ls') (k : zGo l C M d mc ms (pc + 1) ls' st n σ Q) : zGo l C M d mc ms pc ls (zR x :: st) n σ Q := by
  intro p e R MC MS s m args below meth c Z F E H locs cells slots la hH hL hc hs hl
  refine lv_astore_n (lv := zas (zad C) ls) F.1 F.2.1 hdg rfl hl.has hn rfl fun la' h' => ?_
  subst hls
  exact k p e R MC MS s m args below meth c Z F E H locs cells slots la' hH hL hc hs (zLoc.st1 h')
theorem g_astore {i : Nat} {x : Nat} {ls' : List (Option zV)} (hdg : decode M.2.1 pc = .ok (.astore i, 2)) (hn : i < M.2.2.1) (hls : zst1 ls i (zR x) = ls') (k : zGo l C M d mc ms (pc + 2) ls' st n σ Q) : zGo l C M d mc ms pc ls (zR x :: st) n σ Q := by
  intro p e R MC MS s m args below meth c Z F E H locs cells slots la hH hL hc hs hl
  refine lv_astore (lv := zas (zad C) ls) F.1 F.2.1 hdg hl.has hn rfl fun la' h' => ?_
  subst hls
  exact k p e R MC MS s m args below meth c Z F E H locs cells slots la' hH hL hc hs (zLoc.st1 h')
theorem g_iinc {i : Nat} {b x y : Int} {ls' : List (Option zV)} (hdg : decode M.2.1 pc = .ok (.iinc i b, 3)) (hv : ls[i]? = some (some (zI x))) (hy : x + b = y) (hn : i < M.2.2.1) (hls : zst1 ls i (zI y) = ls') (k : zGo l C M d mc ms (pc + 3) ls' st n σ Q) : zGo l C M d mc ms pc ls st n σ Q := by
  intro p e R MC MS s m args below meth c Z F E H locs cells slots la hH hL hc hs hl
  obtain ⟨j, hj⟩ := List.getElem?_of_mem (zas_in (ad := zad C) hv)
  refine lv_iinc (v := Int32.ofInt y) F.1 F.2.1 hdg hl.has hj (by rw [← hy, Int32.ofInt_add]) hn rfl fun la' h' => ?_
  subst hls
  exact k p e R MC MS s m args below meth c Z F E H locs cells slots la' hH hL hc hs (zLoc.st1 (v := zI y) h')
theorem g_iadd {x y : Int} (hdg : decode M.2.1 pc = .ok (.iadd, 1)) (k : zGo l C M d mc ms (pc + 1) ls (zI (x + y) :: st) n σ Q) : zGo l C M d mc ms pc ls (zI y :: zI x :: st) n σ Q := by
  intro p e R MC MS s m args below meth c Z F E H locs cells slots la hH hL hc hs hl
  refine lv_iadd F.1 F.2.1 hdg ?_
  rw [← Int32.ofInt_add]
  exact k p e R MC MS s m args below meth c Z F E H locs cells slots la hH hL hc hs hl
theorem g_isub {x y : Int} (hdg : decode M.2.1 pc = .ok (.isub, 1)) (k : zGo l C M d mc ms (pc + 1) ls (zI (x - y) :: st) n σ Q) : zGo l C M d mc ms pc ls (zI y :: zI x :: st) n σ Q := by
  intro p e R MC MS s m args below meth c Z F E H locs cells slots la hH hL hc hs hl
  refine lv_isub F.1 F.2.1 hdg ?_
  rw [← Int32.ofInt_sub]
  exact k p e R MC MS s m args below meth c Z F E H locs cells slots la hH hL hc hs hl
theorem g_imul {x y : Int} (hdg : decode M.2.1 pc = .ok (.imul, 1)) (k : zGo l C M d mc ms (pc + 1) ls (zI (x * y) :: st) n σ Q) : zGo l C M d mc ms pc ls (zI y :: zI x :: st) n σ Q := by
  intro p e R MC MS s m args below meth c Z F E H locs cells slots la hH hL hc hs hl
  refine lv_imul F.1 F.2.1 hdg ?_
  rw [← Int32.ofInt_mul]
  exact k p e R MC MS s m args below meth c Z F E H locs cells slots la hH hL hc hs hl
theorem g_ladd {x y : Int} (hdg : decode M.2.1 pc = .ok (.ladd, 1)) (k : zGo l C M d mc ms (pc + 1) ls (zL (x + y) :: st) n σ Q) : zGo l C M d mc ms pc ls (zL y :: zL x :: st) n σ Q := by
  intro p e R MC MS s m args below meth c Z F E H locs cells slots la hH hL hc hs hl
  refine lv_ladd F.1 F.2.1 hdg ?_
  rw [← Int64.ofInt_add]
  exact k p e R MC MS s m args below meth c Z F E H locs cells slots la hH hL hc hs hl
theorem g_lmul {x y : Int} (hdg : decode M.2.1 pc = .ok (.lmul, 1)) (k : zGo l C M d mc ms (pc + 1) ls (zL (x * y) :: st) n σ Q) : zGo l C M d mc ms pc ls (zL y :: zL x :: st) n σ Q := by
  intro p e R MC MS s m args below meth c Z F E H locs cells slots la hH hL hc hs hl
  refine lv_lmul F.1 F.2.1 hdg ?_
  rw [← Int64.ofInt_mul]
  exact k p e R MC MS s m args below meth c Z F E H locs cells slots la hH hL hc hs hl
theorem g_ineg {x : Int} (hdg : decode M.2.1 pc = .ok (.ineg, 1)) (k : zGo l C M d mc ms (pc + 1) ls (zI (-x) :: st) n σ Q) : zGo l C M d mc ms pc ls (zI x :: st) n σ Q := by
  intro p e R MC MS s m args below meth c Z F E H locs cells slots la hH hL hc hs hl
  refine lv_ineg F.1 F.2.1 hdg ?_
  rw [← Int32.ofInt_neg]
  exact k p e R MC MS s m args below meth c Z F E H locs cells slots la hH hL hc hs hl
theorem g_idiv {x y : Int} (h0 : 0 ≤ x) (h1 : x < 2147483648) (h2 : 0 < y) (h3 : y < 2147483648) (hdg : decode M.2.1 pc = .ok (.idiv, 1)) (k : zGo l C M d mc ms (pc + 1) ls (zI (x / y) :: st) n σ Q) : zGo l C M d mc ms pc ls (zI y :: zI x :: st) n σ Q := by
  intro p e R MC MS s m args below meth c Z F E H locs cells slots la hH hL hc hs hl
  refine lv_idiv F.1 F.2.1 hdg (by rw [zi_eq0 ⟨by omega, h3⟩]; omega) ?_
  rw [zi_div h0 h1 h2 h3]
  exact k p e R MC MS s m args below meth c Z F E H locs cells slots la hH hL hc hs hl
theorem g_irem {x y : Int} (h0 : 0 ≤ x) (h1 : x < 2147483648) (h2 : 0 < y) (h3 : y < 2147483648) (hdg : decode M.2.1 pc = .ok (.irem, 1)) (k : zGo l C M d mc ms (pc + 1) ls (zI (x % y) :: st) n σ Q) : zGo l C M d mc ms pc ls (zI y :: zI x :: st) n σ Q := by
  intro p e R MC MS s m args below meth c Z F E H locs cells slots la hH hL hc hs hl
  refine lv_irem F.1 F.2.1 hdg (by rw [zi_eq0 ⟨by omega, h3⟩]; omega) ?_
  rw [zi_rem h0 h1 h2 h3]
  exact k p e R MC MS s m args below meth c Z F E H locs cells slots la hH hL hc hs hl
theorem g_ldiv {x y : Int} (h0 : 0 ≤ x) (h1 : x < 9223372036854775808) (h2 : 0 < y) (h3 : y < 9223372036854775808) (hdg : decode M.2.1 pc = .ok (.ldiv, 1)) (k : zGo l C M d mc ms (pc + 1) ls (zL (x / y) :: st) n σ Q) : zGo l C M d mc ms pc ls (zL y :: zL x :: st) n σ Q := by
  intro p e R MC MS s m args below meth c Z F E H locs cells slots la hH hL hc hs hl
  refine lv_ldiv F.1 F.2.1 hdg (fun q => by have q2 := (zl_eq (x := y) (y := 0) ⟨by omega, h3⟩ (by decide)).mp q; omega) ?_
  rw [zl_div h0 h1 h2 h3]
  exact k p e R MC MS s m args below meth c Z F E H locs cells slots la hH hL hc hs hl
theorem g_lrem {x y : Int} (h0 : 0 ≤ x) (h1 : x < 9223372036854775808) (h2 : 0 < y) (h3 : y < 9223372036854775808) (hdg : decode M.2.1 pc = .ok (.lrem, 1)) (k : zGo l C M d mc ms (pc + 1) ls (zL (x % y) :: st) n σ Q) : zGo l C M d mc ms pc ls (zL y :: zL x :: st) n σ Q := by
  intro p e R MC MS s m args below meth c Z F E H locs cells slots la hH hL hc hs hl
  refine lv_lrem F.1 F.2.1 hdg (fun q => by have q2 := (zl_eq (x := y) (y := 0) ⟨by omega, h3⟩ (by decide)).mp q; omega) ?_
  rw [zl_rem h0 h1 h2 h3]
  exact k p e R MC MS s m args below meth c Z F E H locs cells slots la hH hL hc hs hl
def zshl (x y : Int) : Int := (Int32.ofInt x <<< (Int32.ofInt y &&& 31)).toInt
def zshr (x y : Int) : Int := (Int32.ofInt x >>> (Int32.ofInt y &&& 31)).toInt
def zushr (x y : Int) : Int := ((Int32.ofInt x).toUInt32 >>> ((Int32.ofInt y).toUInt32 &&& Int32.toUInt32 31)).toInt32.toInt
def zand (x y : Int) : Int := (Int32.ofInt x &&& Int32.ofInt y).toInt
def zor (x y : Int) : Int := (Int32.ofInt x ||| Int32.ofInt y).toInt
theorem g_ishl {x y : Int} (hdg : decode M.2.1 pc = .ok (.ishl, 1)) (k : zGo l C M d mc ms (pc + 1) ls (zI (zshl x y) :: st) n σ Q) : zGo l C M d mc ms pc ls (zI y :: zI x :: st) n σ Q := by
  intro p e R MC MS s m args below meth c Z F E H locs cells slots la hH hL hc hs hl
  refine lv_ishl F.1 F.2.1 hdg ?_
  rw [show _ = Int32.ofInt (zshl x y) from (Int32.ofInt_toInt _).symm]
  exact k p e R MC MS s m args below meth c Z F E H locs cells slots la hH hL hc hs hl
theorem g_ishr {x y : Int} (hdg : decode M.2.1 pc = .ok (.ishr, 1)) (k : zGo l C M d mc ms (pc + 1) ls (zI (zshr x y) :: st) n σ Q) : zGo l C M d mc ms pc ls (zI y :: zI x :: st) n σ Q := by
  intro p e R MC MS s m args below meth c Z F E H locs cells slots la hH hL hc hs hl
  refine lv_ishr F.1 F.2.1 hdg ?_
  rw [show _ = Int32.ofInt (zshr x y) from (Int32.ofInt_toInt _).symm]
  exact k p e R MC MS s m args below meth c Z F E H locs cells slots la hH hL hc hs hl
theorem g_iand {x y : Int} (hdg : decode M.2.1 pc = .ok (.iand, 1)) (k : zGo l C M d mc ms (pc + 1) ls (zI (zand x y) :: st) n σ Q) : zGo l C M d mc ms pc ls (zI y :: zI x :: st) n σ Q := by
  intro p e R MC MS s m args below meth c Z F E H locs cells slots la hH hL hc hs hl
  refine lv_iand F.1 F.2.1 hdg ?_
  rw [show _ = Int32.ofInt (zand x y) from (Int32.ofInt_toInt _).symm]
  exact k p e R MC MS s m args below meth c Z F E H locs cells slots la hH hL hc hs hl
theorem g_ior {x y : Int} (hdg : decode M.2.1 pc = .ok (.ior, 1)) (k : zGo l C M d mc ms (pc + 1) ls (zI (zor x y) :: st) n σ Q) : zGo l C M d mc ms pc ls (zI y :: zI x :: st) n σ Q := by
  intro p e R MC MS s m args below meth c Z F E H locs cells slots la hH hL hc hs hl
  refine lv_ior F.1 F.2.1 hdg ?_
  rw [show _ = Int32.ofInt (zor x y) from (Int32.ofInt_toInt _).symm]
  exact k p e R MC MS s m args below meth c Z F E H locs cells slots la hH hL hc hs hl
theorem g_iushr {x y : Int} (hdg : decode M.2.1 pc = .ok (.iushr, 1)) (k : zGo l C M d mc ms (pc + 1) ls (zI (zushr x y) :: st) n σ Q) : zGo l C M d mc ms pc ls (zI y :: zI x :: st) n σ Q := by
  intro p e R MC MS s m args below meth c Z F E H locs cells slots la hH hL hc hs hl
  refine lv_iushr (v := Int32.ofInt (zushr x y)) F.1 F.2.1 hdg (Int32.ofInt_toInt _).symm ?_
  exact k p e R MC MS s m args below meth c Z F E H locs cells slots la hH hL hc hs hl
theorem g_i2l {x : Int} (hx : zB x) (hdg : decode M.2.1 pc = .ok (.i2l, 1)) (k : zGo l C M d mc ms (pc + 1) ls (zL x :: st) n σ Q) : zGo l C M d mc ms pc ls (zI x :: st) n σ Q := by
  intro p e R MC MS s m args below meth c Z F E H locs cells slots la hH hL hc hs hl
  refine lv_i2l F.1 F.2.1 hdg (zl_of hx) ?_
  exact k p e R MC MS s m args below meth c Z F E H locs cells slots la hH hL hc hs hl
theorem g_l2i {x : Int} (hdg : decode M.2.1 pc = .ok (.l2i, 1)) (k : zGo l C M d mc ms (pc + 1) ls (zI x :: st) n σ Q) : zGo l C M d mc ms pc ls (zL x :: st) n σ Q := by
  intro p e R MC MS s m args below meth c Z F E H locs cells slots la hH hL hc hs hl
  refine lv_l2i F.1 F.2.1 hdg zl_cut ?_
  exact k p e R MC MS s m args below meth c Z F E H locs cells slots la hH hL hc hs hl
def zi2b (x : Int) : Int := (Int32.ofInt x).toInt8.toInt32.toInt
def zi2s (x : Int) : Int := (Int32.ofInt x).toInt16.toInt32.toInt
theorem g_i2b {x : Int} (hdg : decode M.2.1 pc = .ok (.i2b, 1)) (k : zGo l C M d mc ms (pc + 1) ls (zI (zi2b x) :: st) n σ Q) : zGo l C M d mc ms pc ls (zI x :: st) n σ Q := by
  intro p e R MC MS s m args below meth c Z F E H locs cells slots la hH hL hc hs hl
  refine lv_i2b (v := Int32.ofInt (zi2b x)) F.1 F.2.1 hdg (Int32.ofInt_toInt _).symm ?_
  exact k p e R MC MS s m args below meth c Z F E H locs cells slots la hH hL hc hs hl
theorem g_i2s {x : Int} (hdg : decode M.2.1 pc = .ok (.i2s, 1)) (k : zGo l C M d mc ms (pc + 1) ls (zI (zi2s x) :: st) n σ Q) : zGo l C M d mc ms pc ls (zI x :: st) n σ Q := by
  intro p e R MC MS s m args below meth c Z F E H locs cells slots la hH hL hc hs hl
  refine lv_i2s (v := Int32.ofInt (zi2s x)) F.1 F.2.1 hdg (Int32.ofInt_toInt _).symm ?_
  exact k p e R MC MS s m args below meth c Z F E H locs cells slots la hH hL hc hs hl
theorem zi_c {x : Int} (h0 : 0 ≤ x) (h1 : x < 65536) : ((Int32.ofInt x).toUInt32 % 65536).toInt32 = Int32.ofInt x := by
  rw [pk_char, zi_nI x h0, pk_tn (by omega)]
  congr 1
  omega
theorem g_i2c {x : Int} (h0 : 0 ≤ x) (h1 : x < 65536) (hdg : decode M.2.1 pc = .ok (.i2c, 1)) (k : zGo l C M d mc ms (pc + 1) ls (zI x :: st) n σ Q) : zGo l C M d mc ms pc ls (zI x :: st) n σ Q := by
  intro p e R MC MS s m args below meth c Z F E H locs cells slots la hH hL hc hs hl
  refine lv_i2c F.1 F.2.1 hdg (zi_c h0 h1) ?_
  exact k p e R MC MS s m args below meth c Z F E H locs cells slots la hH hL hc hs hl
theorem zcatI (ad : Nat → Nat) (x : Int) : (zv ad (zI x)).category = 1 := rfl
theorem zcatR (ad : Nat → Nat) (a : Nat) : (zv ad (zR a)).category = 1 := rfl
theorem g_dupI {x : Int} (hdg : decode M.2.1 pc = .ok (.dup, 1)) (k : zGo l C M d mc ms (pc + 1) ls (zI x :: zI x :: st) n σ Q) : zGo l C M d mc ms pc ls (zI x :: st) n σ Q := by
  intro p e R MC MS s m args below meth c Z F E H locs cells slots la hH hL hc hs hl
  refine lv_dup F.1 F.2.1 hdg rfl ?_
  exact k p e R MC MS s m args below meth c Z F E H locs cells slots la hH hL hc hs hl
theorem g_dupR {a : Nat} (hdg : decode M.2.1 pc = .ok (.dup, 1)) (k : zGo l C M d mc ms (pc + 1) ls (zR a :: zR a :: st) n σ Q) : zGo l C M d mc ms pc ls (zR a :: st) n σ Q := by
  intro p e R MC MS s m args below meth c Z F E H locs cells slots la hH hL hc hs hl
  refine lv_dup F.1 F.2.1 hdg rfl ?_
  exact k p e R MC MS s m args below meth c Z F E H locs cells slots la hH hL hc hs hl
theorem g_dup2 {x : Int} {a : Nat} (hdg : decode M.2.1 pc = .ok (.dup2, 1)) (k : zGo l C M d mc ms (pc + 1) ls (zI x :: zR a :: zI x :: zR a :: st) n σ Q) : zGo l C M d mc ms pc ls (zI x :: zR a :: st) n σ Q := by
  intro p e R MC MS s m args below meth c Z F E H locs cells slots la hH hL hc hs hl
  refine lv_dup2_11 F.1 F.2.1 hdg rfl rfl ?_
  exact k p e R MC MS s m args below meth c Z F E H locs cells slots la hH hL hc hs hl
theorem g_popI {x : Int} (hdg : decode M.2.1 pc = .ok (.pop, 1)) (k : zGo l C M d mc ms (pc + 1) ls (st) n σ Q) : zGo l C M d mc ms pc ls (zI x :: st) n σ Q := by
  intro p e R MC MS s m args below meth c Z F E H locs cells slots la hH hL hc hs hl
  refine lv_pop F.1 F.2.1 hdg rfl ?_
  exact k p e R MC MS s m args below meth c Z F E H locs cells slots la hH hL hc hs hl
def zcmp (x y : Int) : Int := if y < x then 1 else if x = y then 0 else -1
theorem zcmp_eq {x y : Int} (hx : zB8 x) (hy : zB8 y) : lg_cmp (Int64.ofInt x) (Int64.ofInt y) = Int32.ofInt (zcmp x y) := by
  unfold lg_cmp zcmp
  by_cases h : y < x
  · rw [if_pos ((zl_lt hy hx).mpr h), if_pos h]; rfl
  · rw [if_neg (fun q => h ((zl_lt hy hx).mp q)), if_neg h]
    by_cases h2 : x = y
    · rw [if_pos ((zl_eq hx hy).mpr h2), if_pos h2]; rfl
    · rw [if_neg (fun q => h2 ((zl_eq hx hy).mp q)), if_neg h2]; rfl
theorem g_lcmp {x y : Int} (hx : zB8 x) (hy : zB8 y) (hdg : decode M.2.1 pc = .ok (.lcmp, 1)) (k : zGo l C M d mc ms (pc + 1) ls (zI (zcmp x y) :: st) n σ Q) : zGo l C M d mc ms pc ls (zL y :: zL x :: st) n σ Q := by
  intro p e R MC MS s m args below meth c Z F E H locs cells slots la hH hL hc hs hl
  refine W.lcmp F.1 F.2.1 hdg ?_
  rw [zcmp_eq hx hy]
  exact k p e R MC MS s m args below meth c Z F E H locs cells slots la hH hL hc hs hl
theorem g_icmp_eq {x y : Int} (hx : zB x) (hy : zB y) {o : Int} {t : Nat} (hdg : decode M.2.1 pc = .ok (.if_icmp .eq o, 3)) (ht : (pc : Int) + o = (t : Int)) (kt : x = y → zGo l C M d mc ms t ls st n σ Q) (kf : ¬ x = y → zGo l C M d mc ms (pc + 3) ls st n σ Q) : zGo l C M d mc ms pc ls (zI y :: zI x :: st) n σ Q := by
  intro p e R MC MS s m args below meth c Z F E H locs cells slots la hH hL hc hs hl
  refine lv_icmp_eq F.1 F.2.1 hdg ht (fun h => kt ((zi_eq hx hy).mp h) p e R MC MS s m args below meth c Z F E H locs cells slots la hH hL hc hs hl) (fun h => kf (fun q => h ((zi_eq hx hy).mpr q)) p e R MC MS s m args below meth c Z F E H locs cells slots la hH hL hc hs hl)
theorem g_if_eq {x : Int} (hx : zB x) {o : Int} {t : Nat} (hdg : decode M.2.1 pc = .ok (.ifCond .eq o, 3)) (ht : (pc : Int) + o = (t : Int)) (kt : x = 0 → zGo l C M d mc ms t ls st n σ Q) (kf : ¬ x = 0 → zGo l C M d mc ms (pc + 3) ls st n σ Q) : zGo l C M d mc ms pc ls (zI x :: st) n σ Q := by
  intro p e R MC MS s m args below meth c Z F E H locs cells slots la hH hL hc hs hl
  refine lv_if_eq F.1 F.2.1 hdg ht (fun h => kt ((zi_eq0 hx).mp h) p e R MC MS s m args below meth c Z F E H locs cells slots la hH hL hc hs hl) (fun h => kf (fun q => h ((zi_eq0 hx).mpr q)) p e R MC MS s m args below meth c Z F E H locs cells slots la hH hL hc hs hl)
theorem g_icmp_ne {x y : Int} (hx : zB x) (hy : zB y) {o : Int} {t : Nat} (hdg : decode M.2.1 pc = .ok (.if_icmp .ne o, 3)) (ht : (pc : Int) + o = (t : Int)) (kt : ¬ x = y → zGo l C M d mc ms t ls st n σ Q) (kf : x = y → zGo l C M d mc ms (pc + 3) ls st n σ Q) : zGo l C M d mc ms pc ls (zI y :: zI x :: st) n σ Q := by
  intro p e R MC MS s m args below meth c Z F E H locs cells slots la hH hL hc hs hl
  refine lv_icmp_ne F.1 F.2.1 hdg ht (fun h => kt (fun q => h ((zi_eq hx hy).mpr q)) p e R MC MS s m args below meth c Z F E H locs cells slots la hH hL hc hs hl) (fun h => kf ((zi_eq hx hy).mp h) p e R MC MS s m args below meth c Z F E H locs cells slots la hH hL hc hs hl)
theorem g_if_ne {x : Int} (hx : zB x) {o : Int} {t : Nat} (hdg : decode M.2.1 pc = .ok (.ifCond .ne o, 3)) (ht : (pc : Int) + o = (t : Int)) (kt : ¬ x = 0 → zGo l C M d mc ms t ls st n σ Q) (kf : x = 0 → zGo l C M d mc ms (pc + 3) ls st n σ Q) : zGo l C M d mc ms pc ls (zI x :: st) n σ Q := by
  intro p e R MC MS s m args below meth c Z F E H locs cells slots la hH hL hc hs hl
  refine lv_if_ne F.1 F.2.1 hdg ht (fun h => kt (fun q => h ((zi_eq0 hx).mpr q)) p e R MC MS s m args below meth c Z F E H locs cells slots la hH hL hc hs hl) (fun h => kf ((zi_eq0 hx).mp h) p e R MC MS s m args below meth c Z F E H locs cells slots la hH hL hc hs hl)
theorem g_icmp_lt {x y : Int} (hx : zB x) (hy : zB y) {o : Int} {t : Nat} (hdg : decode M.2.1 pc = .ok (.if_icmp .lt o, 3)) (ht : (pc : Int) + o = (t : Int)) (kt : x < y → zGo l C M d mc ms t ls st n σ Q) (kf : ¬ x < y → zGo l C M d mc ms (pc + 3) ls st n σ Q) : zGo l C M d mc ms pc ls (zI y :: zI x :: st) n σ Q := by
  intro p e R MC MS s m args below meth c Z F E H locs cells slots la hH hL hc hs hl
  refine lv_icmp_lt F.1 F.2.1 hdg ht (fun h => kt ((zi_lt hx hy).mp h) p e R MC MS s m args below meth c Z F E H locs cells slots la hH hL hc hs hl) (fun h => kf (fun q => h ((zi_lt hx hy).mpr q)) p e R MC MS s m args below meth c Z F E H locs cells slots la hH hL hc hs hl)
theorem g_if_lt {x : Int} (hx : zB x) {o : Int} {t : Nat} (hdg : decode M.2.1 pc = .ok (.ifCond .lt o, 3)) (ht : (pc : Int) + o = (t : Int)) (kt : x < 0 → zGo l C M d mc ms t ls st n σ Q) (kf : ¬ x < 0 → zGo l C M d mc ms (pc + 3) ls st n σ Q) : zGo l C M d mc ms pc ls (zI x :: st) n σ Q := by
  intro p e R MC MS s m args below meth c Z F E H locs cells slots la hH hL hc hs hl
  refine lv_if_lt F.1 F.2.1 hdg ht (fun h => kt ((zi_lt0 hx).mp h) p e R MC MS s m args below meth c Z F E H locs cells slots la hH hL hc hs hl) (fun h => kf (fun q => h ((zi_lt0 hx).mpr q)) p e R MC MS s m args below meth c Z F E H locs cells slots la hH hL hc hs hl)
theorem g_icmp_ge {x y : Int} (hx : zB x) (hy : zB y) {o : Int} {t : Nat} (hdg : decode M.2.1 pc = .ok (.if_icmp .ge o, 3)) (ht : (pc : Int) + o = (t : Int)) (kt : y ≤ x → zGo l C M d mc ms t ls st n σ Q) (kf : ¬ y ≤ x → zGo l C M d mc ms (pc + 3) ls st n σ Q) : zGo l C M d mc ms pc ls (zI y :: zI x :: st) n σ Q := by
  intro p e R MC MS s m args below meth c Z F E H locs cells slots la hH hL hc hs hl
  refine lv_icmp_ge F.1 F.2.1 hdg ht (fun h => kt ((zi_le hy hx).mp h) p e R MC MS s m args below meth c Z F E H locs cells slots la hH hL hc hs hl) (fun h => kf (fun q => h ((zi_le hy hx).mpr q)) p e R MC MS s m args below meth c Z F E H locs cells slots la hH hL hc hs hl)
theorem g_if_ge {x : Int} (hx : zB x) {o : Int} {t : Nat} (hdg : decode M.2.1 pc = .ok (.ifCond .ge o, 3)) (ht : (pc : Int) + o = (t : Int)) (kt : 0 ≤ x → zGo l C M d mc ms t ls st n σ Q) (kf : ¬ 0 ≤ x → zGo l C M d mc ms (pc + 3) ls st n σ Q) : zGo l C M d mc ms pc ls (zI x :: st) n σ Q := by
  intro p e R MC MS s m args below meth c Z F E H locs cells slots la hH hL hc hs hl
  refine lv_if_ge F.1 F.2.1 hdg ht (fun h => kt ((zi_0le hx).mp h) p e R MC MS s m args below meth c Z F E H locs cells slots la hH hL hc hs hl) (fun h => kf (fun q => h ((zi_0le hx).mpr q)) p e R MC MS s m args below meth c Z F E H locs cells slots la hH hL hc hs hl)
theorem g_icmp_gt {x y : Int} (hx : zB x) (hy : zB y) {o : Int} {t : Nat} (hdg : decode M.2.1 pc = .ok (.if_icmp .gt o, 3)) (ht : (pc : Int) + o = (t : Int)) (kt : y < x → zGo l C M d mc ms t ls st n σ Q) (kf : ¬ y < x → zGo l C M d mc ms (pc + 3) ls st n σ Q) : zGo l C M d mc ms pc ls (zI y :: zI x :: st) n σ Q := by
  intro p e R MC MS s m args below meth c Z F E H locs cells slots la hH hL hc hs hl
  refine lv_icmp_gt F.1 F.2.1 hdg ht (fun h => kt ((zi_lt hy hx).mp h) p e R MC MS s m args below meth c Z F E H locs cells slots la hH hL hc hs hl) (fun h => kf (fun q => h ((zi_lt hy hx).mpr q)) p e R MC MS s m args below meth c Z F E H locs cells slots la hH hL hc hs hl)
theorem g_if_gt {x : Int} (hx : zB x) {o : Int} {t : Nat} (hdg : decode M.2.1 pc = .ok (.ifCond .gt o, 3)) (ht : (pc : Int) + o = (t : Int)) (kt : 0 < x → zGo l C M d mc ms t ls st n σ Q) (kf : ¬ 0 < x → zGo l C M d mc ms (pc + 3) ls st n σ Q) : zGo l C M d mc ms pc ls (zI x :: st) n σ Q := by
  intro p e R MC MS s m args below meth c Z F E H locs cells slots la hH hL hc hs hl
  refine lv_if_gt F.1 F.2.1 hdg ht (fun h => kt ((zi_0lt hx).mp h) p e R MC MS s m args below meth c Z F E H locs cells slots la hH hL hc hs hl) (fun h => kf (fun q => h ((zi_0lt hx).mpr q)) p e R MC MS s m args below meth c Z F E H locs cells slots la hH hL hc hs hl)
theorem g_icmp_le {x y : Int} (hx : zB x) (hy : zB y) {o : Int} {t : Nat} (hdg : decode M.2.1 pc = .ok (.if_icmp .le o, 3)) (ht : (pc : Int) + o = (t : Int)) (kt : x ≤ y → zGo l C M d mc ms t ls st n σ Q) (kf : ¬ x ≤ y → zGo l C M d mc ms (pc + 3) ls st n σ Q) : zGo l C M d mc ms pc ls (zI y :: zI x :: st) n σ Q := by
  intro p e R MC MS s m args below meth c Z F E H locs cells slots la hH hL hc hs hl
  refine lv_icmp_le F.1 F.2.1 hdg ht (fun h => kt ((zi_le hx hy).mp h) p e R MC MS s m args below meth c Z F E H locs cells slots la hH hL hc hs hl) (fun h => kf (fun q => h ((zi_le hx hy).mpr q)) p e R MC MS s m args below meth c Z F E H locs cells slots la hH hL hc hs hl)
theorem g_if_le {x : Int} (hx : zB x) {o : Int} {t : Nat} (hdg : decode M.2.1 pc = .ok (.ifCond .le o, 3)) (ht : (pc : Int) + o = (t : Int)) (kt : x ≤ 0 → zGo l C M d mc ms t ls st n σ Q) (kf : ¬ x ≤ 0 → zGo l C M d mc ms (pc + 3) ls st n σ Q) : zGo l C M d mc ms pc ls (zI x :: st) n σ Q := by
  intro p e R MC MS s m args below meth c Z F E H locs cells slots la hH hL hc hs hl
  refine lv_if_le F.1 F.2.1 hdg ht (fun h => kt ((zi_le0 hx).mp h) p e R MC MS s m args below meth c Z F E H locs cells slots la hH hL hc hs hl) (fun h => kf (fun q => h ((zi_le0 hx).mpr q)) p e R MC MS s m args below meth c Z F E H locs cells slots la hH hL hc hs hl)
theorem g_goto {o : Int} {t : Nat} (hdg : decode M.2.1 pc = .ok (.goto o, 3)) (ht : (pc : Int) + o = (t : Int)) (k : zGo l C M d mc ms t ls st n σ Q) : zGo l C M d mc ms pc ls st n σ Q := by
  intro p e R MC MS s m args below meth c Z F E H locs cells slots la hH hL hc hs hl
  refine lv_goto F.1 F.2.1 hdg ht ?_
  exact k p e R MC MS s m args below meth c Z F E H locs cells slots la hH hL hc hs hl
theorem g_tswOut {dflt lo hi : Int} {offs : Array Int} {len : Nat} {x : Int} {t : Nat} (hx : zB x) (hdg : decode M.2.1 pc = .ok (.tableswitch dflt lo hi offs, len)) (h : x < lo ∨ hi < x) (ht : (pc : Int) + dflt = (t : Int)) (k : zGo l C M d mc ms t ls st n σ Q) : zGo l C M d mc ms pc ls (zI x :: st) n σ Q := by
  intro p e R MC MS s m args below meth c Z F E H locs cells slots la hH hL hc hs hl
  refine lv_tableOut F.1 F.2.1 hdg (by rw [zi_to hx]; exact h) ht ?_
  exact k p e R MC MS s m args below meth c Z F E H locs cells slots la hH hL hc hs hl
theorem g_tswIn {dflt lo hi : Int} {offs : Array Int} {len : Nat} {x off : Int} {t : Nat} (hx : zB x) (hdg : decode M.2.1 pc = .ok (.tableswitch dflt lo hi offs, len)) (h1 : ¬ x < lo) (h2 : ¬ hi < x) (ho : offs[(x - lo).toNat]? = some off) (ht : (pc : Int) + off = (t : Int)) (k : zGo l C M d mc ms t ls st n σ Q) : zGo l C M d mc ms pc ls (zI x :: st) n σ Q := by
  intro p e R MC MS s m args below meth c Z F E H locs cells slots la hH hL hc hs hl
  refine lv_tableIn F.1 F.2.1 hdg (by rw [zi_to hx]; exact h1) (by rw [zi_to hx]; exact h2) (by rw [zi_to hx]; exact ho) ht ?_
  exact k p e R MC MS s m args below meth c Z F E H locs cells slots la hH hL hc hs hl
theorem g_lsw {dflt : Int} {ps : Array (Int × Int)} {len : Nat} {x off : Int} {t : Nat} (hx : zB x) (hdg : decode M.2.1 pc = .ok (.lookupswitch dflt ps, len)) (hp : (ps.toList.zip (ps.toList.drop 1)).all (fun (a, next) => a.1 < next.1) = true) (ho : Op.lookupswitch.offset ps.toList dflt x = off) (ht : (pc : Int) + off = (t : Int)) (k : zGo l C M d mc ms t ls st n σ Q) : zGo l C M d mc ms pc ls (zI x :: st) n σ Q := by
  intro p e R MC MS s m args below meth c Z F E H locs cells slots la hH hL hc hs hl
  refine lv_lookup F.1 F.2.1 hdg hp (by rw [zi_to hx]; exact ho) ht ?_
  exact k p e R MC MS s m args below meth c Z F E H locs cells slots la hH hL hc hs hl
theorem g_nm {x : Int} (k : ∀ y : Int, y = x → zGo l C M d mc ms pc ls (zI y :: st) n σ Q) : zGo l C M d mc ms pc ls (zI x :: st) n σ Q := k x rfl
theorem g_nmL {x : Int} (k : ∀ y : Int, y = x → zGo l C M d mc ms pc ls (zL y :: st) n σ Q) : zGo l C M d mc ms pc ls (zL x :: st) n σ Q := k x rfl
theorem g_ret (hr : M.2.2.2 = none) (hdg : decode M.2.1 pc = .ok (.return_, 1)) (hq : Q none n σ) : zGo l C M d mc ms pc ls [] n σ Q := by
  intro p e R MC MS s m args below meth c Z F E H locs cells slots la hH hL hc hs hl
  exact E none n σ H locs cells slots pc la hq hH hL (by omega) (by omega) (Or.inl ⟨rfl, hr, hdg⟩)
theorem g_iret {x : Int} (hr : M.2.2.2 = some .int) (hdg : decode M.2.1 pc = .ok (.ireturn, 1)) (hq : Q (some (zI x)) n σ) : zGo l C M d mc ms pc ls [zI x] n σ Q := by
  intro p e R MC MS s m args below meth c Z F E H locs cells slots la hH hL hc hs hl
  exact E (some (zI x)) n σ H locs cells slots pc la hq hH hL (by omega) (by omega) (Or.inr (Or.inl ⟨x, rfl, hdg, Or.inl hr⟩))
theorem g_zret {x : Int} (hr : M.2.2.2 = some .boolean) (hx : x = 0 ∨ x = 1) (hdg : decode M.2.1 pc = .ok (.ireturn, 1)) (hq : Q (some (zI x)) n σ) : zGo l C M d mc ms pc ls [zI x] n σ Q := by
  intro p e R MC MS s m args below meth c Z F E H locs cells slots la hH hL hc hs hl
  exact E (some (zI x)) n σ H locs cells slots pc la hq hH hL (by omega) (by omega) (Or.inr (Or.inl ⟨x, rfl, hdg, Or.inr (Or.inl ⟨hr, hx⟩)⟩))
theorem g_bret (hr : M.2.2.2 = some .byte) (hdg : decode M.2.1 pc = .ok (.ireturn, 1)) (hq : Q (some (zI 0)) n σ) : zGo l C M d mc ms pc ls [zI 0] n σ Q := by
  intro p e R MC MS s m args below meth c Z F E H locs cells slots la hH hL hc hs hl
  exact E (some (zI 0)) n σ H locs cells slots pc la hq hH hL (by omega) (by omega) (Or.inr (Or.inl ⟨0, rfl, hdg, Or.inr (Or.inr ⟨hr, rfl⟩)⟩))
theorem g_aret {a : Nat} {nm : String} (hr : M.2.2.2 = some (.object nm)) (hdg : decode M.2.1 pc = .ok (.areturn, 1)) (hq : Q (some (zR a)) n σ) : zGo l C M d mc ms pc ls [zR a] n σ Q := by
  intro p e R MC MS s m args below meth c Z F E H locs cells slots la hH hL hc hs hl
  exact E (some (zR a)) n σ H locs cells slots pc la hq hH hL (by omega) (by omega) (Or.inr (Or.inr ⟨a, rfl, hdg, nm, hr⟩))
end
end
section
section
variable {l : Launch} {C : zC} {M : zMt} {d mc ms pc : Nat} {ls : List (Option zV)} {st : List zV} {n : Nat} {σ : zM} {Q : Option zV → Nat → zM → Prop}
/-! fields -/
def zFld (own : String) (i ci k : Nat) : Prop := ∃ r : vw_C, vwCl[ci]? = some r ∧ k < r.2.2 ∧ Cond.fieldLink own i (r.2.1 k).1 (r.2.1 k).2.1 (r.2.1 k).2.2.1 ∈ ztb
def zFldW (own : String) (i ci k : Nat) (fin : Bool) (ty : FieldType) : Prop := ∃ r : vw_C, vwCl[ci]? = some r ∧ k < r.2.2 ∧ Cond.fieldLink own i (r.2.1 k).1 (r.2.1 k).2.1 (r.2.1 k).2.2.1 ∈ ztb ∧ (r.2.1 k).2.2.2 = fin ∧ parseFieldDescriptor (r.2.1 k).2.2.1 = some ty ∧ (fin = true → (r.2.1 k).1 = own)
def zClsOk (r : vw_C) : Prop := (∀ w ∈ u_ws r.1 r.2.1 r.2.2, w ∈ ztb) ∧ (∃ ty0 : Nat → FieldType, ∀ k, k < r.2.2 → parseFieldDescriptor (r.2.1 k).2.2.1 = some (ty0 k)) ∧ (∀ a, a < r.2.2 → ∀ b, b < r.2.2 → a ≠ b → (r.2.1 a).2.1 ≠ (r.2.1 b).2.1)
theorem zHp.obj {U : State} {H : Heap} (hH : zHp C U n σ H) {a ci : Nat} (hk : (zsh C a).1 = 10 + ci) (ha : a < 8 + n) : zObj (zD C) (zad C) ci (zad C a) (σ a) H := by
  have h := (hH.2.2 a ha).2 (by omega)
  rw [show (zsh C a).1 - 10 = ci by omega] at h
  exact h
theorem zHp.arr {U : State} {H : Heap} (hH : zHp C U n σ H) {a k N : Nat} (hk : zsh C a = (k, N)) (h0 : 0 < k) (h1 : k < 10) (ha : a < 8 + n) : zArr (zad C) U (zTy k) N (zad C a) (σ a) H := by
  have h := (hH.2.2 a ha).1
  rw [hk] at h
  exact h h0 h1
theorem g_get {a ci k i : Nat} {v : zV} (hf : zFld M.1.cls i ci k) (hc1 : ∀ r, vwCl[ci]? = some r → zClsOk r) (hk : (zsh C a).1 = 10 + ci) (ha : a < 8 + n) (hv : σ a (k : Int) = v) (hdg : decode M.2.1 pc = .ok (.getfield i, 3)) (kk : zGo l C M d mc ms (pc + 3) ls (v :: st) n σ Q) : zGo l C M d mc ms pc ls (zR a :: st) n σ Q := by
  intro p e R MC MS s m args below meth c Z F E H locs cells slots la hH hL hc hs hl
  obtain ⟨r, hr, hkN, hw⟩ := hf
  obtain ⟨hin, -, -⟩ := hc1 r hr
  obtain ⟨r', hr', cell, q1, q2, q3, q4⟩ := hH.obj hk ha
  cases hr.symm.trans hr'
  have hts := F.2.2.2.2.1
  have hK := F.2.2.2.2.2.1.2.2.1
  obtain ⟨hS, hfc, kC, hkC, hkind⟩ := hK.1 ci _ hr
  obtain ⟨cf, kf, fi, f, hi, hsl⟩ := hS k hkN
  refine W.getf F.1 F.2.1 F.2.2.2.1 (hts _ hw) hi (u_facts hfc hkC (u_lays hts hin hkN) hi).1 q1 (by rw [q3]; exact fun h => by cases h) (v := zv (zad C) v) ?_ rfl rfl hdg (kk p e R MC MS s m args below meth c Z F E H locs cells slots la hH hL hc hs hl)
  rw [hsl, q4 k hkN]
  show some (zv (zad C) (σ a (k : Int))) = _
  rw [hv]
theorem zup_self {a : Nat} {x : Int} {v : zV} : zup σ a x v a x = v := if_pos ⟨rfl, rfl⟩
theorem g_put {a ci k i : Nat} {v : zV} {ty : FieldType} (hf : zFldW M.1.cls i ci k false ty) (hc1 : ∀ r, vwCl[ci]? = some r → zClsOk r) (hk : (zsh C a).1 = 10 + ci) (ha : a < 8 + n) (h8 : 8 ≤ a) (hnr : narrow ty (zv (zad C) v) = zv (zad C) v) (hft : fits ty (zv (zad C) v) = true) (hdg : decode M.2.1 pc = .ok (.putfield i, 3)) (kk : zGo l C M d mc ms (pc + 3) ls st n (zup σ a k v) Q) : zGo l C M d mc ms pc ls (v :: zR a :: st) n σ Q := by
  intro p e R MC MS s m args below meth c Z F E H locs cells slots la hH hL hc hs hl
  obtain ⟨r, hr, hkN, hw, hfin, hd, -⟩ := hf
  obtain ⟨hin, ⟨ty0, hty⟩, hnm⟩ := hc1 r hr
  have hts := F.2.2.2.2.1
  have hKs := F.2.2.2.2.2.1
  have hK := hKs.2.2.1
  have hap := va_apart (own := M.1.cls) (N := r.2.2) (T := r.2.1) (C := r.1) hts hin ty0 hty hnm hK hr
  obtain ⟨r', hr', cell, q1, q2, q3, q4⟩ := hH.obj hk ha
  cases hr.symm.trans hr'
  obtain ⟨hS, hfc, kC, hkC, hkind⟩ := hK.1 ci _ hr
  obtain ⟨cf, kf, fi, f, hi, hsl⟩ := hS k hkN
  have hlay := hts _ (hin _ (u_in_lay hkN))
  unfold u_lay at hlay
  rw [if_neg (by rw [hfin]; decide)] at hlay
  have hst := (u_facts hfc hkC (u_lays hts hin hkN) hi).1
  have h6 := u_store hfc hkC hkind hlay hi hd hnr hft
  refine W.putK F.1 F.2.1 (f := f) ⟨F.2.2.2.1, hts _ hw, ⟨_, _, _, hi⟩, hst⟩ (by rw [q2]; exact h6) q1 q3 (by rw [hsl]; exact k2_hasslot (q4 k hkN)) rfl rfl hdg fun H' e1 e2 e3 => ?_
  rw [hsl] at e1 ⊢
  have h8' : zz C ≤ zad C a := by rw [hKs.1 a h8]; exact Nat.le_add_right _ _
  refine kk p e R MC MS s m args below meth c Z F E H' _ cells slots la (hH.set hKs h8 e2 e3 (fun b hb => by funext y; simp [zup, hb]) ⟨fun _ q => by omega, fun _ => ?_⟩) (fun q hq => ?_) hc hs hl
  · rw [show (zsh C a).1 - 10 = ci by omega]
    refine ⟨_, hr, t_OB.to (V := updV (fun k => zv (zad C) (σ a (k : Int))) k (zv (zad C) v)) ⟨_, e1, q2, q3, t_set q4 hap hkN _⟩ (fun j _ => ?_)⟩
    by_cases hj : j = k
    · subst hj
      simp [updV, zup]
    · have : ¬ ((j : Int) = (k : Int)) := by omega
      simp [updV, zup, hj, this]
  · rcases List.mem_append.mp hq with h | h
    · exact hL q h
    · rw [List.mem_singleton.mp h]
      exact h8'
theorem g_putF {a ci k i : Nat} {v : zV} {ty : FieldType} (hf : zFldW M.1.cls i ci k true ty) (hname : M.1.name = "<init>") (hc1 : ∀ r, vwCl[ci]? = some r → zClsOk r) (hk : (zsh C a).1 = 10 + ci) (ha : a < 8 + n) (h8 : 8 ≤ a) (hnr : narrow ty (zv (zad C) v) = zv (zad C) v) (hft : fits ty (zv (zad C) v) = true) (hdg : decode M.2.1 pc = .ok (.putfield i, 3)) (kk : zGo l C M d mc ms (pc + 3) ls st n (zup σ a k v) Q) : zGo l C M d mc ms pc ls (v :: zR a :: st) n σ Q := by
  intro p e R MC MS s m args below meth c Z F E H locs cells slots la hH hL hc hs hl
  obtain ⟨r, hr, hkN, hw, hfin, hd, hdecl⟩ := hf
  have hdecl := hdecl rfl
  obtain ⟨hin, ⟨ty0, hty⟩, hnm⟩ := hc1 r hr
  have hts := F.2.2.2.2.1
  have hKs := F.2.2.2.2.2.1
  have hK := hKs.2.2.1
  have hin2 : meth.name = "<init>" := by rw [F.2.2.2.2.2.2.2.2.2.2]; exact hname
  have hap := va_apart (own := M.1.cls) (N := r.2.2) (T := r.2.1) (C := r.1) hts hin ty0 hty hnm hK hr
  obtain ⟨r', hr', cell, q1, q2, q3, q4⟩ := hH.obj hk ha
  cases hr.symm.trans hr'
  obtain ⟨hS, hfc, kC, hkC, hkind⟩ := hK.1 ci _ hr
  obtain ⟨cf, kf, fi, f, hi, hsl⟩ := hS k hkN
  have hlay := hts _ (hin _ (u_in_lay hkN))
  unfold u_lay at hlay
  rw [if_pos hfin] at hlay
  have hst := (u_facts hfc hkC (u_lays hts hin hkN) hi).1
  have hcf : m.cls = cf := by
    obtain ⟨_, _, c', _, _, _, -, -, hf', -, -, -, hown2, -⟩ := Cond.laysFinal_spec hlay
    have e1 : c' = cf := by have := hi.symm.trans hf'; simp at this; exact this.1.symm
    rw [hdecl] at hown2
    rw [← e1]; exact Option.some.inj (F.2.2.2.1.symm.trans hown2)
  have h6 := u_fits hfc hkC hkind (Or.inr hlay) hi hd hnr hft
  refine W.putFinK F.1 F.2.1 F.2.2.2.1 (hts _ hw) hi hst hcf hin2 (by rw [q2]; exact h6) q1 q3 (by rw [hsl]; exact k2_hasslot (q4 k hkN)) rfl rfl hdg fun H' e1 e2 e3 => ?_
  rw [hsl] at e1 ⊢
  have h8' : zz C ≤ zad C a := by rw [hKs.1 a h8]; exact Nat.le_add_right _ _
  refine kk p e R MC MS s m args below meth c Z F E H' _ cells slots la (hH.set hKs h8 e2 e3 (fun b hb => by funext y; simp [zup, hb]) ⟨fun _ q => by omega, fun _ => ?_⟩) (fun q hq => ?_) hc hs hl
  · rw [show (zsh C a).1 - 10 = ci by omega]
    refine ⟨_, hr, t_OB.to (V := updV (fun k => zv (zad C) (σ a (k : Int))) k (zv (zad C) v)) ⟨_, e1, q2, q3, t_set q4 hap hkN _⟩ (fun j _ => ?_)⟩
    by_cases hj : j = k
    · subst hj
      simp [updV, zup]
    · have : ¬ ((j : Int) = (k : Int)) := by omega
      simp [updV, zup, hj, this]
  · rcases List.mem_append.mp hq with h | h
    · exact hL q h
    · rw [List.mem_singleton.mp h]
      exact h8'
/-! arrays -/
theorem zArr.at {ad : Nat → Nat} {f : Int → zV} {N : Nat} {slots : Array Value} (h : ∀ j : Nat, j < N → slots[j]? = some (zv ad (f (j : Int)))) {x : Int} (h0 : 0 ≤ x) (h1 : x < N) (h2 : x < 2147483648) : slots[(Int32.ofInt x).toNatClampNeg]? = some (zv ad (f x)) := by
  rw [zi_nat h0 h2, h x.toNat (by omega)]
  congr 3
  omega
theorem g_iald {a N : Nat} {x y : Int} (hk : zsh C a = (1, N)) (ha : a < 8 + n) (h0 : 0 ≤ x) (h1 : x < N) (hN : N < 2147483648) (hv : σ a x = zI y) (hdg : decode M.2.1 pc = .ok (.iaload, 1)) (kk : zGo l C M d mc ms (pc + 1) ls (zI y :: st) n σ Q) : zGo l C M d mc ms pc ls (zI x :: zR a :: st) n σ Q := by
  intro p e R MC MS s m args below meth c Z F E H locs cells slots la hH hL hc hs hl
  obtain ⟨cell, q1, q2, q3, q4, q5⟩ := hH.arr hk (by decide) (by decide) ha
  exact W.iald F.1 F.2.1 q1 q2.1 q3 (by rw [q4]; exact zi_in h0 h1 (by omega)) (by rw [zArr.at q5 h0 h1 (by omega), hv]) rfl rfl hdg (kk p e R MC MS s m args below meth c Z F E H locs cells slots la hH hL hc hs hl)
theorem g_zald {a N : Nat} {x y : Int} (hk : zsh C a = (2, N)) (ha : a < 8 + n) (h0 : 0 ≤ x) (h1 : x < N) (hN : N < 2147483648) (hv : σ a x = zI y) (hdg : decode M.2.1 pc = .ok (.baload, 1)) (kk : zGo l C M d mc ms (pc + 1) ls (zI y :: st) n σ Q) : zGo l C M d mc ms pc ls (zI x :: zR a :: st) n σ Q := by
  intro p e R MC MS s m args below meth c Z F E H locs cells slots la hH hL hc hs hl
  obtain ⟨cell, q1, q2, q3, q4, q5⟩ := hH.arr hk (by decide) (by decide) ha
  exact W.zald F.1 F.2.1 q1 q2.1 q3 (by rw [q4]; exact zi_in h0 h1 (by omega)) (by rw [zArr.at q5 h0 h1 (by omega), hv]) rfl rfl hdg (kk p e R MC MS s m args below meth c Z F E H locs cells slots la hH hL hc hs hl)
theorem g_aald {a k N b : Nat} {x : Int} (hk : zsh C a = (k, N)) (hk2 : k = 3 ∨ k = 4) (ha : a < 8 + n) (h0 : 0 ≤ x) (h1 : x < N) (hN : N < 2147483648) (hv : σ a x = zR b) (hdg : decode M.2.1 pc = .ok (.aaload, 1)) (kk : zGo l C M d mc ms (pc + 1) ls (zR b :: st) n σ Q) : zGo l C M d mc ms pc ls (zI x :: zR a :: st) n σ Q := by
  intro p e R MC MS s m args below meth c Z F E H locs cells slots la hH hL hc hs hl
  obtain ⟨cell, q1, q2, q3, q4, q5⟩ := hH.arr hk (by omega) (by omega) ha
  exact W.aald F.1 F.2.1 q1 q2.1 (by rcases hk2 with rfl | rfl <;> rfl) q3 (by rw [q4]; exact zi_in h0 h1 (by omega)) (by rw [zArr.at q5 h0 h1 (by omega), hv]) rfl rfl hdg (kk p e R MC MS s m args below meth c Z F E H locs cells slots la hH hL hc hs hl)
theorem g_alen {a k N : Nat} (hk : zsh C a = (k, N)) (hk1 : 0 < k) (hk2 : k < 10) (ha : a < 8 + n) (hdg : decode M.2.1 pc = .ok (.arraylength, 1)) (kk : zGo l C M d mc ms (pc + 1) ls (zI (N : Int) :: st) n σ Q) : zGo l C M d mc ms pc ls (zR a :: st) n σ Q := by
  intro p e R MC MS s m args below meth c Z F E H locs cells slots la hH hL hc hs hl
  obtain ⟨cell, q1, q2, q3, q4, q5⟩ := hH.arr hk hk1 hk2 ha
  exact W.alen (n := Int32.ofInt (N : Int)) F.1 F.2.1 q1 q2.1 (by rw [q4, Int32.ofInt_eq_ofNat]) rfl rfl hdg (kk p e R MC MS s m args below meth c Z F E H locs cells slots la hH hL hc hs hl)
theorem zArr.set {ad : Nat → Nat} {U : State} {ty : FieldType} {N q : Nat} {f g : Int → zV} {H1 : Heap} {cell : Cell} (q2 : zIs U cell ty) (q3 : cell.vm ≠ .unknown) (q4 : cell.slots.size = N) (q5 : ∀ j : Nat, j < N → cell.slots[j]? = some (zv ad (f (j : Int)))) {x : Int} {v : Value} (h0 : 0 ≤ x) (h1 : x < N) (h2 : x < 2147483648) (e1 : H1[q]? = some (cell.setSlot (Int32.ofInt x).toNatClampNeg v)) (hg : ∀ y, y ≠ x → g y = f y) (hx : zv ad (g x) = v) : zArr ad U ty N q g H1 := by
  rw [zi_nat h0 h2] at e1
  refine ⟨_, e1, ⟨q2.1, q2.2⟩, q3, by rw [← q4]; simp [Cell.setSlot], fun j hj => ?_⟩
  by_cases hjx : j = x.toNat
  · subst hjx
    rw [Cell.slots_setSlot_self _ (by rw [q4]; exact hj)]
    rw [show ((x.toNat : Nat) : Int) = x by omega, hx]
  · rw [slot_ne _ _ (Ne.symm hjx), q5 j hj, hg j (by omega)]
theorem g_iast {a N : Nat} {x y : Int} (hk : zsh C a = (1, N)) (ha : a < 8 + n) (h8 : 8 ≤ a) (h0 : 0 ≤ x) (h1 : x < N) (hN : N < 2147483648) (hdg : decode M.2.1 pc = .ok (.iastore, 1)) (kk : zGo l C M d mc ms (pc + 1) ls st n (zup σ a x (zI y)) Q) : zGo l C M d mc ms pc ls (zI y :: zI x :: zR a :: st) n σ Q := by
  intro p e R MC MS s m args below meth c Z F E H locs cells slots la hH hL hc hs hl
  have hKs := F.2.2.2.2.2.1
  obtain ⟨cell, q1, q2, q3, q4, q5⟩ := hH.arr hk (by decide) (by decide) ha
  have h8' : zz C ≤ zad C a := by rw [hKs.1 a h8]; exact Nat.le_add_right _ _
  refine W.iast F.1 F.2.1 q1 q2.1 q3 (by rw [q4]; exact zi_in h0 h1 (by omega)) rfl rfl hdg fun H' e1 e2 e3 => ?_
  refine kk p e R MC MS s m args below meth c Z F E H' _ cells slots la (hH.set hKs h8 e2 e3 (fun b hb => by funext y; simp [zup, hb]) ⟨fun _ _ => ?_, fun q => by rw [hk] at q; omega⟩) (fun q hq => ?_) hc hs hl
  · rw [hk]
    exact zArr.set q2 q3 q4 q5 h0 h1 (by omega) e1 (fun z hz => by simp [zup, hz]) (by simp [zup, zv])
  · rcases List.mem_append.mp hq with h | h
    · exact hL q h
    · rw [List.mem_singleton.mp h]
      exact h8'
theorem g_zast {a N : Nat} {x y : Int} (hy : y = 0 ∨ y = 1) (hk : zsh C a = (2, N)) (ha : a < 8 + n) (h8 : 8 ≤ a) (h0 : 0 ≤ x) (h1 : x < N) (hN : N < 2147483648) (hdg : decode M.2.1 pc = .ok (.bastore, 1)) (kk : zGo l C M d mc ms (pc + 1) ls st n (zup σ a x (zI y)) Q) : zGo l C M d mc ms pc ls (zI y :: zI x :: zR a :: st) n σ Q := by
  intro p e R MC MS s m args below meth c Z F E H locs cells slots la hH hL hc hs hl
  have hKs := F.2.2.2.2.2.1
  obtain ⟨cell, q1, q2, q3, q4, q5⟩ := hH.arr hk (by decide) (by decide) ha
  have h8' : zz C ≤ zad C a := by rw [hKs.1 a h8]; exact Nat.le_add_right _ _
  refine W.zast F.1 F.2.1 q1 q2.1 q3 (by rw [q4]; exact zi_in h0 h1 (by omega)) rfl rfl hdg fun H' e1 e2 e3 => ?_
  refine kk p e R MC MS s m args below meth c Z F E H' _ cells slots la (hH.set hKs h8 e2 e3 (fun b hb => by funext y; simp [zup, hb]) ⟨fun _ _ => ?_, fun q => by rw [hk] at q; omega⟩) (fun q hq => ?_) hc hs hl
  · rw [hk]
    refine zArr.set q2 q3 q4 q5 h0 h1 (by omega) e1 (fun z hz => by simp [zup, hz]) ?_
    rcases hy with rfl | rfl <;> simp [zup, zv] <;> rfl
  · rcases List.mem_append.mp hq with h | h
    · exact hL q h
    · rw [List.mem_singleton.mp h]
      exact h8'
theorem g_aast {a b N : Nat} {x : Int} (hk : zsh C a = (3, N)) (ha : a < 8 + n) (h8 : 8 ≤ a) (hkb : (zsh C b).1 = 15) (hb : b < 8 + n) (h0 : 0 ≤ x) (h1 : x < N) (hN : N < 2147483648) (hdg : decode M.2.1 pc = .ok (.aastore, 1)) (kk : zGo l C M d mc ms (pc + 1) ls st n (zup σ a x (zR b)) Q) : zGo l C M d mc ms pc ls (zR b :: zI x :: zR a :: st) n σ Q := by
  intro p e R MC MS s m args below meth c Z F E H locs cells slots la hH hL hc hs hl
  have hKs := F.2.2.2.2.2.1
  have hK := hKs.2.2.1
  obtain ⟨cell, q1, q2, q3, q4, q5⟩ := hH.arr hk (by decide) (by decide) ha
  have h8' : zz C ≤ zad C a := by rw [hKs.1 a h8]; exact Nat.le_add_right _ _
  obtain ⟨r, hr, cellV, g1, g2, g3, -⟩ := hH.obj (ci := 5) hkb hb
  cases hr
  have hcls := (hK.1 5 _ rfl).2
  obtain ⟨comp, c2, k2, h1a, h2a, h3a, h4a, h5a⟩ := Cond.arrayOver_spec hKs.2.2.2.2.2.1
  have hcc : cell.cls = c2 := Option.some.inj ((q2.2 _ rfl).symm.trans h5a)
  have hcomp : comp = (zD C).1 5 := Option.some.inj (h1a.symm.trans hcls.1)
  subst hcomp
  obtain ⟨kC, hkC, hkind⟩ := hcls.2
  refine W.aast F.1 F.2.1 q1 q2.1.1 q3 (by rw [hcc]; exact h3a) h4a rfl hkC ⟨by rw [zi_lt0 ⟨by omega, by omega⟩]; omega, by rw [q4, zi_nat h0 (by omega)]; omega⟩ g1 (fun q h => by rw [g3] at h; cases h) (by rw [g2]; exact hkC) (by rw [g2]; exact va_assign hcls) rfl rfl hdg fun H' e1 e2 e3 => ?_
  refine kk p e R MC MS s m args below meth c Z F E H' _ cells slots la (hH.set hKs h8 e2 e3 (fun b hb => by funext y; simp [zup, hb]) ⟨fun _ _ => ?_, fun q => by rw [hk] at q; omega⟩) (fun q hq => ?_) hc hs hl
  · rw [hk]
    exact zArr.set q2 q3 q4 q5 h0 h1 (by omega) e1 (fun z hz => by simp [zup, hz]) (by simp [zup, zv])
  · rcases List.mem_append.mp hq with h | h
    · exact hL q h
    · rw [List.mem_singleton.mp h]
      exact h8'
end
end
section
section
variable {l : Launch} {C : zC} {M M' : zMt} {d d' mc ms mc1 ms1 mc2 ms2 pc np i : Nat} {ls : List (Option zV)} {st st' as : List zV} {n : Nat} {σ : zM} {Q Q' : Option zV → Nat → zM → Prop}
def zRm (d mc ms : Nat) : Room := { frames := d, cells := mc, slots := ms, locals := 200 * d }
def zPc (C : zC) (as : List zV) (n : Nat) (σ : zM) : Array Value → State → Prop := fun v U => v = (as.map (zv (zad C))).toArray ∧ zKs C U ∧ zHp C U n σ U.heap
def zQc (C : zC) (Q : Option zV → Nat → zM → Prop) : Array Value → State → Outcome → State → Prop := fun _ _ o t => ∃ (v : Option zV) (n : Nat) (σ : zM), o = .returned (v.map (zv (zad C))) ∧ Q v n σ ∧ zHp C t n σ t.heap
def zCt (l : Launch) (C : zC) (M : zMt) (d mc ms : Nat) (as : List zV) (n : Nat) (σ : zM) (Q : Option zV → Nat → zM → Prop) : Prop :=
  Met l M.1 (Cond.code M.1 M.2.1 M.2.2.1 M.2.2.2 :: ztb) (zRm d mc ms) (zPc C as n σ) (zQc C Q) mc ms (zA C)
theorem zPc_blind : FrameBlind (zPc C as n σ) := fun _ U _ _ q => ⟨q.1, zKs.same (u := U) rfl q.2.1, zHp.moved (u := U) (Vm.Alike.refl U.vm) q.2.2⟩
def zsl : List zV → List (Option zV)
  | [] => []
  | .inr (.inl x) :: r => some (zL x) :: none :: zsl r
  | v :: r => some v :: zsl r
theorem zsl_at (ad : Nat → Nat) : ∀ (as : List zV), (zsl as).length = (lg_sl (as.map (zv ad))).length ∧ ∀ (i : Nat) (v : zV), (zsl as)[i]? = some (some v) → (lg_sl (as.map (zv ad)))[i]? = some (.val (zv ad v))
  | [] => ⟨rfl, fun i v h => by simp [zsl] at h⟩
  | .inr (.inl x) :: r => by
    obtain ⟨h1, h2⟩ := zsl_at ad r
    have e : lg_sl ((zL x :: r).map (zv ad)) = .val (zv ad (zL x)) :: .second :: lg_sl (r.map (zv ad)) := rfl
    refine ⟨by rw [e]; simp [zsl, h1], fun i v h => ?_⟩
    rw [e]
    match i, h with
    | 0, h => cases h; rfl
    | 1, h => cases h
    | i + 2, h => exact h2 i v h
  | .inl x :: r => by
    obtain ⟨h1, h2⟩ := zsl_at ad r
    have e : lg_sl ((zI x :: r).map (zv ad)) = .val (zv ad (zI x)) :: lg_sl (r.map (zv ad)) := rfl
    refine ⟨by rw [e]; simp [zsl, h1], fun i v h => ?_⟩
    rw [e]
    match i, h with
    | 0, h => cases h; rfl
    | i + 1, h => exact h2 i v h
  | .inr (.inr (some a)) :: r => by
    obtain ⟨h1, h2⟩ := zsl_at ad r
    have e : lg_sl ((zR a :: r).map (zv ad)) = .val (zv ad (zR a)) :: lg_sl (r.map (zv ad)) := rfl
    refine ⟨by rw [e]; simp [zsl, h1], fun i v h => ?_⟩
    rw [e]
    match i, h with
    | 0, h => cases h; rfl
    | i + 1, h => exact h2 i v h
  | .inr (.inr none) :: r => by
    obtain ⟨h1, h2⟩ := zsl_at ad r
    have e : lg_sl ((zN :: r).map (zv ad)) = .val (zv ad zN) :: lg_sl (r.map (zv ad)) := rfl
    refine ⟨by rw [e]; simp [zsl, h1], fun i v h => ?_⟩
    rw [e]
    match i, h with
    | 0, h => cases h; rfl
    | i + 1, h => exact h2 i v h
theorem zLoc.entry {ad : Nat → Nat} {nL k : Nat} (hlen : (zsl as).length ≤ nL) : zLoc ad nL ((lg_sl (as.map (zv ad)) ++ List.replicate (nL - (lg_sl (as.map (zv ad))).length) Slot.unset).toArray) (zsl as ++ List.replicate k none) := by
  obtain ⟨h1, h2⟩ := zsl_at ad as
  obtain ⟨g1, g2, -⟩ := lv_entry (as.map (zv ad)) (n := nL) (by rw [← h1]; exact hlen)
  refine ⟨g1, g2, fun i v h => ?_⟩
  by_cases hi : i < (zsl as).length
  · rw [List.getElem?_append_left hi] at h
    have h3 := h2 i v h
    simp only [List.getElem?_toArray]
    rw [List.getElem?_append_left (by rw [← h1]; exact hi)]
    exact h3
  · rw [List.getElem?_append_right (by omega)] at h
    have := List.eq_of_mem_replicate (List.mem_of_getElem? h)
    cases this
theorem zCt_of (hy : plainName M.1.cls = true) (hlen : (zsl as).length ≤ M.2.2.1) (k : Nat) (hls : zsl as ++ List.replicate k none = ls) (body : zGo l C M d mc ms 0 ls [] n σ Q) : zCt l C M d mc ms as n σ Q := by
  refine Met.ofW (cc := M.2.1) (maxL := M.2.2.1) (ret := M.2.2.2) hy rfl ?_
  intro p e s m args below meth c s₁ B hml hv
  obtain ⟨rfl, hK, hH⟩ := hv
  subst hls
  have hts := atoms_spec (ws := Cond.code M.1 M.2.1 M.2.2.1 M.2.2.2 :: ztb) B.pre
  have hlocks := B.notSynchronized
  rw [lg_entry_eq]
  refine body p e _ mc ms s m _ below meth c _ ⟨B.exec, B.bytes, hml, findClass_of_methodNamed B.named, fun w h => hts w (List.mem_cons_of_mem _ h), hK, Nat.le_refl _, Nat.le_refl _, Nat.le_refl _, Nat.le_refl _, (name_of_methodNamed B.named B.method).1⟩ ?_ s.heap [] 0 0 _ hH (fun q h => by cases h) (by omega) (by omega) (zLoc.entry hlen)
  intro v n' σ' H locs cells slots pc la hq hH' hL hc hs hr
  refine W.widen (k := mc) (n := ms) hc hs ?_
  rcases hr with ⟨rfl, h1, h2⟩ | ⟨x, rfl, h2, h1⟩ | ⟨a, rfl, h2, nm, h1⟩
  · exact W.vret B.exec B.bytes (B.returns.trans h1) (fun t ht hW => ⟨none, n', σ', rfl, hq, by rw [ht]; exact hH'.moved hW.alike⟩) (fun q h => hL q h) h2 hlocks
  · rcases h1 with h1 | ⟨h1, hx⟩ | ⟨h1, hx⟩
    · exact W.iret (v := Int32.ofInt x) B.exec B.bytes (B.returns.trans h1) (fun t ht hW => ⟨some (zI x), n', σ', rfl, hq, by rw [ht]; exact hH'.moved hW.alike⟩) (fun q h => hL q h) h2 hlocks
    · exact W.zret (v := Int32.ofInt x) (ty := .boolean) B.exec B.bytes (B.returns.trans h1) (by rcases hx with rfl | rfl <;> rfl) (fun t ht hW => ⟨some (zI x), n', σ', rfl, hq, by rw [ht]; exact hH'.moved hW.alike⟩) (fun q h => hL q h) h2 hlocks
    · exact W.zret (v := Int32.ofInt x) (ty := .byte) B.exec B.bytes (B.returns.trans h1) (by subst hx; rfl) (fun t ht hW => ⟨some (zI x), n', σ', rfl, hq, by rw [ht]; exact hH'.moved hW.alike⟩) (fun q h => hL q h) h2 hlocks
  · exact W.aret (v := .ref (zad C a)) B.exec B.bytes (B.returns.trans h1) (Or.inl ⟨nm, rfl⟩) (Or.inr ⟨_, rfl⟩) (fun t ht hW => ⟨some (zR a), n', σ', rfl, hq, by rw [ht]; exact hH'.moved hW.alike⟩) (fun q h => hL q h) h2 hlocks
/-! calls -/
def zct : zV → Nat
  | .inr (.inl _) => 2
  | _ => 1
theorem zct_sum (ad : Nat → Nat) : ∀ st : List zV, ((st.map (zv ad)).map fun v => v.category).sum = (st.map zct).sum
  | [] => rfl
  | .inr (.inl x) :: r => by simp only [List.map_cons, List.sum_cons, zct_sum ad r]; rfl
  | .inl x :: r => by simp only [List.map_cons, List.sum_cons, zct_sum ad r]; rfl
  | .inr (.inr (some a)) :: r => by simp only [List.map_cons, List.sum_cons, zct_sum ad r]; rfl
  | .inr (.inr none) :: r => by simp only [List.map_cons, List.sum_cons, zct_sum ad r]; rfl
theorem z_back {p : Program} {e : Env} {R : Room} {s : State} {m : MethodId} {args a : Array Value} {below : List Frame} {meth : Method} {c : Code} {H : Heap} {locs : List Loc} {cells slots : Nat} {Z : State → Prop} {la : Array Slot} {st0 rest : List Value}
    (hr : va_Run p l e R s m args below meth c H locs cells slots mc1 ms1 (F0 m pc la st0) rest (zQc C Q' a) (zA C)) (hL : ∀ q ∈ locs, zz C ≤ q.base)
    (kk : ∀ (v : Option zV) (n' : Nat) (σ' : zM) (H1 : Heap) (locs1 : List Loc), Q' v n' σ' → zHp C s n' σ' H1 → (∀ q ∈ locs1, zz C ≤ q.base) → W p l e R s m args below meth c H1 locs1 (cells + mc1) (slots + ms1) Z (F0 m (pc + 3) la (v.toList.map (zv (zad C)) ++ rest))) : W p l e R s m args below meth c H locs cells slots Z (F0 m pc la st0) := by
  intro T hT X
  obtain ⟨v, st₀, t, T', L, h0, X', hL2, e1, e2, ⟨v', n', σ', ho, hq, hh⟩, stp⟩ := hr T hT X
  have ev : v = v'.map (zv (zad C)) := Outcome.returned.inj ho
  subst ev
  have hh2 : zHp C s n' σ' T'.heap := by
    rw [e1]
    refine zHp.moved (u := t) ?_ hh
    rw [← e2]
    exact X'.warmed.alike.symm
  obtain ⟨t2, a1, b1⟩ := kk v' n' σ' T'.heap (locs ++ L) hq hh2 (fun q h => (List.mem_append.mp h).elim (hL q) (hL2 q)) T' rfl X'
  refine ⟨t2, stp t2 ?_, b1⟩
  cases v' <;> exact a1
def zMS (M : zMt) (np : Nat) : Prop := Cond.static M.1 ∈ ztb ∧ Cond.initialized M.1.cls ∈ ztb ∧ Cond.code M.1 M.2.1 M.2.2.1 M.2.2.2 ∈ ztb ∧ (M.1.cls ≠ "java/lang/invoke/MethodHandle" ∧ M.1.cls ≠ "java/lang/invoke/VarHandle" ∧ (parseMethodDescriptor M.1.desc).map (fun d => d.parameters.length) = some np) ∧ M.2.2.1 ≤ 100
def zMV (M : zMt) (np : Nat) : Prop := Cond.instanceMethod M.1 ∈ ztb ∧ Cond.selects M.1.cls M.1 M.1 ∈ ztb ∧ Cond.initialized M.1.cls ∈ ztb ∧ Cond.code M.1 M.2.1 M.2.2.1 M.2.2.2 ∈ ztb ∧ (M.1.cls ≠ "java/lang/invoke/MethodHandle" ∧ M.1.cls ≠ "java/lang/invoke/VarHandle" ∧ (parseMethodDescriptor M.1.desc).map (fun d => d.parameters.length) = some np) ∧ M.2.2.1 ≤ 100
def zMN (M : zMt) (np : Nat) : Prop := Cond.instanceMethod M.1 ∈ ztb ∧ M.1.name = "<init>" ∧ Cond.initialized M.1.cls ∈ ztb ∧ Cond.code M.1 M.2.1 M.2.2.1 none ∈ ztb ∧ M.2.2.2 = none ∧ (M.1.cls ≠ "java/lang/invoke/MethodHandle" ∧ M.1.cls ≠ "java/lang/invoke/VarHandle" ∧ (parseMethodDescriptor M.1.desc).map (fun d => d.parameters.length) = some np) ∧ M.2.2.1 ≤ 100
theorem g_callS (hm : zMS M' np) (hw : Cond.methodLink M.1.cls i M'.1 ∈ ztb) (hc : zCt l C M' d' mc1 ms1 as n σ Q') (hd : d' + 1 ≤ d) (hst : st = as.reverse ++ st') (hcat : (st'.map zct).sum ≤ 8) (hn : as.length = np) (hmc : mc1 + mc = mc2) (hms : ms1 + ms = ms2) (hdg : decode M.2.1 pc = .ok (.invokestatic i, 3))
    (kk : ∀ (v : Option zV) (n' : Nat) (σ' : zM), Q' v n' σ' → zGo l C M d mc ms (pc + 3) ls (v.toList ++ st') n' σ' Q) : zGo l C M d mc2 ms2 pc ls st n σ Q := by
  intro p e R MC MS s m args below meth c Z F E H locs cells slots la hH hL hcc hss hl
  subst hst
  obtain ⟨hx, hb, hml, hown, hts, hKs, hf1, hf2, hf3, hf4, -⟩ := id F
  obtain ⟨m1, m2, m3, m4, m5⟩ := hm
  have cb : CallB R s args M.1.cls i M'.1 M'.2.1 M'.2.2.1 M'.2.2.2 _ (zRm d' mc1 ms1) mc1 ms1 np := callB_of np hts (zt_good M'.1 m3) rfl rfl rfl (hts _ m2) (hts _ hw) m4 ⟨by show d' + 1 ≤ _; omega, by show 8 + (M'.2.2.1 + 11) + 200 * d' ≤ _; omega⟩
  have hrun := va_runS (As := as.map (zv (zad C))) (rest := st'.map (zv (zad C))) (g := F0 m pc la ((as.reverse ++ st').map (zv (zad C)))) (locs := locs) (cells := cells) (slots := slots) (below := below) (meth := meth) (e := e) ⟨hx, hb, hml, hown, hts⟩ hc ⟨cb, hts _ m1⟩ ⟨zPc_blind, fun U hU hW => ⟨rfl, hKs.warm hW, by rw [hU]; exact hH.moved hW.alike⟩⟩ rfl (by rw [List.length_map]; exact hn) hl.1 (by simp) (lv_room (by rw [zct_sum]; exact hcat)) hdg ⟨by omega, by omega⟩
  refine z_back hrun hL fun v n' σ' H1 locs1 hq hH1 hL1 => ?_
  have := kk v n' σ' hq p e R MC MS s m args below meth c Z F E H1 locs1 (cells + mc1) (slots + ms1) la hH1 hL1 (by omega) (by omega) hl
  rw [List.map_append] at this
  exact this
theorem g_callV {b ci : Nat} (hm : zMV M' np) (hw : Cond.methodLink M.1.cls i M'.1 ∈ ztb) (hk : (zsh C b).1 = 10 + ci) (hcl : (vwCl[ci]?).map (fun r => r.1) = some M'.1.cls) (hb8 : b < 8 + n) (hc : zCt l C M' d' mc1 ms1 (zR b :: as) n σ Q') (hd : d' + 1 ≤ d) (hst : st = as.reverse ++ zR b :: st') (hcat : (st'.map zct).sum ≤ 8) (hn : as.length = np) (hmc : mc1 + mc = mc2) (hms : ms1 + ms = ms2) (hdg : decode M.2.1 pc = .ok (.invokevirtual i, 3))
    (kk : ∀ (v : Option zV) (n' : Nat) (σ' : zM), Q' v n' σ' → zGo l C M d mc ms (pc + 3) ls (v.toList ++ st') n' σ' Q) : zGo l C M d mc2 ms2 pc ls st n σ Q := by
  intro p e R MC MS s m args below meth c Z F E H locs cells slots la hH hL hcc hss hl
  subst hst
  obtain ⟨hx, hb, hml, hown, hts, hKs, hf1, hf2, hf3, hf4, -⟩ := id F
  obtain ⟨m0, m1, m2, m3, m4, m5⟩ := hm
  have cb : CallB R s args M.1.cls i M'.1 M'.2.1 M'.2.2.1 M'.2.2.2 _ (zRm d' mc1 ms1) mc1 ms1 np := callB_of np hts (zt_good M'.1 m3) rfl rfl rfl (hts _ m2) (hts _ hw) m4 ⟨by show d' + 1 ≤ _; omega, by show 8 + (M'.2.2.1 + 11) + 200 * d' ≤ _; omega⟩
  have hrecv : ∃ cellB : Cell, H[zad C b]? = some cellB ∧ cellB.vm.isStatics = false ∧ s.vm.findClass M'.1.cls = some cellB.cls := by
    obtain ⟨r, hr, cell, q1, q2, q3, -⟩ := hH.obj hk hb8
    obtain ⟨-, hfc, -⟩ := hKs.2.2.1.1 ci _ hr
    rw [hr] at hcl
    have e1 : r.1 = M'.1.cls := Option.some.inj hcl
    exact ⟨cell, q1, by rw [q3]; rfl, by rw [← e1, q2]; exact hfc⟩
  have hrun := va_runV (As := as.map (zv (zad C))) (b := zad C b) (rest := st'.map (zv (zad C))) (g := F0 m pc la ((as.reverse ++ zR b :: st').map (zv (zad C)))) (locs := locs) (cells := cells) (slots := slots) (below := below) (meth := meth) (e := e) ⟨hx, hb, hml, hown, hts⟩ hc ⟨cb, hts _ m0, hts _ m1⟩ ⟨zPc_blind, hrecv, fun U hU hW => ⟨rfl, hKs.warm hW, by rw [hU]; exact hH.moved hW.alike⟩⟩ rfl (by rw [List.length_map]; exact hn) hl.1 (by simp [zv]) (lv_room (by rw [zct_sum]; exact hcat)) hdg ⟨by omega, by omega⟩
  refine z_back hrun hL fun v n' σ' H1 locs1 hq hH1 hL1 => ?_
  have := kk v n' σ' hq p e R MC MS s m args below meth c Z F E H1 locs1 (cells + mc1) (slots + ms1) la hH1 hL1 (by omega) (by omega) hl
  rw [List.map_append] at this
  exact this
theorem g_callI {b : Nat} (hm : zMN M' np) (hw : Cond.methodLink M.1.cls i M'.1 ∈ ztb) (hc : zCt l C M' d' mc1 ms1 (zR b :: as) n σ Q') (hd : d' + 1 ≤ d) (hst : st = as.reverse ++ zR b :: st') (hcat : (st'.map zct).sum ≤ 8) (hn : as.length = np) (hmc : mc1 + mc = mc2) (hms : ms1 + ms = ms2) (hdg : decode M.2.1 pc = .ok (.invokespecial i, 3))
    (kk : ∀ (v : Option zV) (n' : Nat) (σ' : zM), Q' v n' σ' → zGo l C M d mc ms (pc + 3) ls (v.toList ++ st') n' σ' Q) : zGo l C M d mc2 ms2 pc ls st n σ Q := by
  intro p e R MC MS s m args below meth c Z F E H locs cells slots la hH hL hcc hss hl
  subst hst
  obtain ⟨hx, hb, hml, hown, hts, hKs, hf1, hf2, hf3, hf4, -⟩ := id F
  obtain ⟨m0, m1, m2, m3, mr, m4, m5⟩ := hm
  have hc' : Met l M'.1 (Cond.code M'.1 M'.2.1 M'.2.2.1 none :: ztb) (zRm d' mc1 ms1) (zPc C (zR b :: as) n σ) (zQc C Q') mc1 ms1 (zA C) := by
    have h := hc
    unfold zCt at h
    rw [mr] at h
    exact h
  have cb : CallB R s args M.1.cls i M'.1 M'.2.1 M'.2.2.1 none _ (zRm d' mc1 ms1) mc1 ms1 np := callB_of np hts (zt_good M'.1 m3) rfl rfl rfl (hts _ m2) (hts _ hw) m4 ⟨by show d' + 1 ≤ _; omega, by show 8 + (M'.2.2.1 + 11) + 200 * d' ≤ _; omega⟩
  have hrun := va_runI (As := as.map (zv (zad C))) (b := zad C b) (rest := st'.map (zv (zad C))) (g := F0 m pc la ((as.reverse ++ zR b :: st').map (zv (zad C)))) (locs := locs) (cells := cells) (slots := slots) (below := below) (meth := meth) (e := e) ⟨hx, hb, hml, hown, hts⟩ hc' ⟨cb, m1, hts _ m0⟩ ⟨zPc_blind, fun U hU hW => ⟨rfl, hKs.warm hW, by rw [hU]; exact hH.moved hW.alike⟩⟩ rfl (by rw [List.length_map]; exact hn) hl.1 (by simp [zv]) (lv_room (by rw [zct_sum]; exact hcat)) hdg ⟨by omega, by omega⟩
  refine z_back hrun hL fun v n' σ' H1 locs1 hq hH1 hL1 => ?_
  have := kk v n' σ' hq p e R MC MS s m args below meth c Z F E H1 locs1 (cells + mc1) (slots + ms1) la hH1 hL1 (by omega) (by omega) hl
  rw [List.map_append] at this
  exact this
theorem g_callN {b : Nat} (hm : zMN M' np) (hw : Cond.methodLinkNest M.1.cls i M'.1 "DrumPeace" ∈ zNest) (hc : zCt l C M' d' mc1 ms1 (zR b :: as) n σ Q') (hd : d' + 1 ≤ d) (hst : st = as.reverse ++ zR b :: st') (hcat : (st'.map zct).sum ≤ 8) (hn : as.length = np) (hmc : mc1 + mc = mc2) (hms : ms1 + ms = ms2) (hdg : decode M.2.1 pc = .ok (.invokespecial i, 3))
    (kk : ∀ (v : Option zV) (n' : Nat) (σ' : zM), Q' v n' σ' → zGo l C M d mc ms (pc + 3) ls (v.toList ++ st') n' σ' Q) : zGo l C M d mc2 ms2 pc ls st n σ Q := by
  intro p e R MC MS s m args below meth c Z F E H locs cells slots la hH hL hcc hss hl
  subst hst
  obtain ⟨hx, hb, hml, hown, hts, hKs, hf1, hf2, hf3, hf4, -⟩ := id F
  obtain ⟨m0, m1, m2, m3, mr, m4, m5⟩ := hm
  have hc' : Met l M'.1 (Cond.code M'.1 M'.2.1 M'.2.2.1 none :: ztb) (zRm d' mc1 ms1) (zPc C (zR b :: as) n σ) (zQc C Q') mc1 ms1 (zA C) := by
    have h := hc
    unfold zCt at h
    rw [mr] at h
    exact h
  have cb : va_CN R s args M.1.cls i M'.1 "DrumPeace" M'.2.1 M'.2.2.1 none _ (zRm d' mc1 ms1) mc1 ms1 np := va_cnB np hts (zt_good M'.1 m3) rfl rfl rfl (hKs.2.2.2.1 _ hw) (hts _ m2) m4 ⟨by show d' + 1 ≤ _; omega, by show 8 + (M'.2.2.1 + 11) + 200 * d' ≤ _; omega⟩
  have hrun := va_runIN (As := as.map (zv (zad C))) (b := zad C b) (rest := st'.map (zv (zad C))) (g := F0 m pc la ((as.reverse ++ zR b :: st').map (zv (zad C)))) (locs := locs) (cells := cells) (slots := slots) (below := below) (meth := meth) (e := e) ⟨hx, hb, hml, hown, hts⟩ hc' ⟨cb, m1, hts _ m0⟩ ⟨zPc_blind, fun U hU hW => ⟨rfl, hKs.warm hW, by rw [hU]; exact hH.moved hW.alike⟩⟩ rfl (by rw [List.length_map]; exact hn) hl.1 (by simp [zv]) (lv_room (by rw [zct_sum]; exact hcat)) hdg ⟨by omega, by omega⟩
  refine z_back hrun hL fun v n' σ' H1 locs1 hq hH1 hL1 => ?_
  have := kk v n' σ' hq p e R MC MS s m args below meth c Z F E H1 locs1 (cells + mc1) (slots + ms1) la hH1 hL1 (by omega) (by omega) hl
  rw [List.map_append] at this
  exact this
end
end
section
section
variable {l : Launch} {C : zC} {M M' : zMt} {d d' mc ms mc1 ms1 mc2 ms2 pc np i : Nat} {ls : List (Option zV)} {st st' as : List zV} {n : Nat} {σ : zM} {Q Q' : Option zV → Nat → zM → Prop}
/-! statics, the text -/
theorem z_gets {Cn nm ds : String} {v : zV} (hz : ∀ (s : State) (H : Heap), zOld C s H → va_Z Cn nm ds (zv (zad C) v) (zA C) s H) (hw : Cond.fieldLink M.1.cls i Cn nm ds ∈ ztb) (hdg : decode M.2.1 pc = .ok (.getstatic i, 3)) (kk : zGo l C M d mc ms (pc + 3) ls (v :: st) n σ Q) : zGo l C M d mc ms pc ls st n σ Q := by
  intro p e R MC MS s m args below meth c Z F E H locs cells slots la hH hL hc hs hl
  obtain ⟨cf, kf, fi, f, a, cell, h1, h2, h3, h4, h5, h6, h7, h8⟩ := hz s H hH.2.1
  exact W.gets F.1 F.2.1 F.2.2.2.1 (F.2.2.2.2.1 _ hw) h1 h2 h3 h4 h5 (fun e => by rw [e] at h6; cases h6) h7 rfl hdg (kk p e R MC MS s m args below meth c Z F E H locs cells slots la hH hL hc hs hl)
theorem g_gets1 (hw : Cond.fieldLink M.1.cls i "DrumPeace$Asks" "IS_ONE" "[I" ∈ ztb) (hdg : decode M.2.1 pc = .ok (.getstatic i, 3)) (kk : zGo l C M d mc ms (pc + 3) ls (zR 1 :: st) n σ Q) : zGo l C M d mc ms pc ls st n σ Q := z_gets (fun _ _ h => h.1) hw hdg kk
theorem g_gets2 (hw : Cond.fieldLink M.1.cls i "DrumPeace$Asks" "SIZE_BODIES" "[I" ∈ ztb) (hdg : decode M.2.1 pc = .ok (.getstatic i, 3)) (kk : zGo l C M d mc ms (pc + 3) ls (zR 2 :: st) n σ Q) : zGo l C M d mc ms pc ls st n σ Q := z_gets (fun _ _ h => h.2.1) hw hdg kk
theorem g_gets3 (hw : Cond.fieldLink M.1.cls i "DrumPeace$Asks" "MARK_BODIES" "[I" ∈ ztb) (hdg : decode M.2.1 pc = .ok (.getstatic i, 3)) (kk : zGo l C M d mc ms (pc + 3) ls (zR 3 :: st) n σ Q) : zGo l C M d mc ms pc ls st n σ Q := z_gets (fun _ _ h => h.2.2.1) hw hdg kk
theorem g_getsC (hw : Cond.fieldLink M.1.cls i "java/lang/String" "COMPACT_STRINGS" "Z" ∈ ztb) (hdg : decode M.2.1 pc = .ok (.getstatic i, 3)) (kk : zGo l C M d mc ms (pc + 3) ls (zI 1 :: st) n σ Q) : zGo l C M d mc ms pc ls st n σ Q := z_gets (v := zI 1) (fun _ _ h => h.2.2.2.1) hw hdg kk
theorem g_ldcS (hcls : M.1.cls = "DrumPeace$Tape") (hdg : decode M.2.1 pc = .ok (.ldc 52, 2)) (kk : zGo l C M d mc ms (pc + 2) ls (zR 4 :: st) n σ Q) : zGo l C M d mc ms pc ls st n σ Q := by
  intro p e R MC MS s m args below meth c Z F E H locs cells slots la hH hL hc hs hl
  have hown := F.2.2.2.1
  rw [hcls] at hown
  exact va_ldcS F.1 F.2.1 hown F.2.2.2.2.2.1.2.2.2.2.1 hdg (kk p e R MC MS s m args below meth c Z F E H locs cells slots la hH hL hc hs hl)
theorem z_getO {nm ds : String} {v : zV} (hz : ∀ (s : State) (H : Heap), zOld C s H → va_OF "java/lang/String" nm ds (zv (zad C) v) (zad C 4) (zA C) s H) (hw : Cond.fieldLink M.1.cls i "java/lang/String" nm ds ∈ ztb) (hdg : decode M.2.1 pc = .ok (.getfield i, 3)) (kk : zGo l C M d mc ms (pc + 3) ls (v :: st) n σ Q) : zGo l C M d mc ms pc ls (zR 4 :: st) n σ Q := by
  intro p e R MC MS s m args below meth c Z F E H locs cells slots la hH hL hc hs hl
  obtain ⟨cf, k, fi, f, cell, h1, h2, h3, h4, h5, -⟩ := hz s H hH.2.1
  exact W.getf F.1 F.2.1 F.2.2.2.1 (F.2.2.2.2.1 _ hw) h1 h2 h3 h4 h5 rfl rfl hdg (kk p e R MC MS s m args below meth c Z F E H locs cells slots la hH hL hc hs hl)
theorem g_getSv (hw : Cond.fieldLink M.1.cls i "java/lang/String" "value" "[B" ∈ ztb) (hdg : decode M.2.1 pc = .ok (.getfield i, 3)) (kk : zGo l C M d mc ms (pc + 3) ls (zR 5 :: st) n σ Q) : zGo l C M d mc ms pc ls (zR 4 :: st) n σ Q := z_getO (fun _ _ h => (h.2.2.2.2.1 0 (by decide)).2.2.1) hw hdg kk
theorem g_getSc (hw : Cond.fieldLink M.1.cls i "java/lang/String" "coder" "B" ∈ ztb) (hdg : decode M.2.1 pc = .ok (.getfield i, 3)) (kk : zGo l C M d mc ms (pc + 3) ls (zI 0 :: st) n σ Q) : zGo l C M d mc ms pc ls (zR 4 :: st) n σ Q := z_getO (v := zI 0) (fun _ _ h => (h.2.2.2.2.1 0 (by decide)).2.1) hw hdg kk
theorem g_bald {a N : Nat} {x y : Int} (hk : zsh C a = (5, N)) (ha : a < 8 + n) (h0 : 0 ≤ x) (h1 : x < N) (hN : N < 2147483648) (hv : σ a x = zI y) (hdg : decode M.2.1 pc = .ok (.baload, 1)) (kk : zGo l C M d mc ms (pc + 1) ls (zI y :: st) n σ Q) : zGo l C M d mc ms pc ls (zI x :: zR a :: st) n σ Q := by
  intro p e R MC MS s m args below meth c Z F E H locs cells slots la hH hL hc hs hl
  obtain ⟨cell, q1, q2, q3, q4, q5⟩ := hH.arr hk (by decide) (by decide) ha
  exact W.bald F.1 F.2.1 q1 q2.1 q3 (by rw [q4]; exact zi_in h0 h1 (by omega)) (by rw [zArr.at q5 h0 h1 (by omega), hv]) rfl rfl hdg (kk p e R MC MS s m args below meth c Z F E H locs cells slots la hH hL hc hs hl)
theorem g_callT (hm : zMV M' np) (hcls : M'.1.cls = "java/lang/String") (hw : Cond.methodLink M.1.cls i M'.1 ∈ ztb) (hc : zCt l C M' d' mc1 ms1 (zR 4 :: as) n σ Q') (hd : d' + 1 ≤ d) (hst : st = as.reverse ++ zR 4 :: st') (hcat : (st'.map zct).sum ≤ 8) (hn : as.length = np) (hmc : mc1 + mc = mc2) (hms : ms1 + ms = ms2) (hdg : decode M.2.1 pc = .ok (.invokevirtual i, 3))
    (kk : ∀ (v : Option zV) (n' : Nat) (σ' : zM), Q' v n' σ' → zGo l C M d mc ms (pc + 3) ls (v.toList ++ st') n' σ' Q) : zGo l C M d mc2 ms2 pc ls st n σ Q := by
  intro p e R MC MS s m args below meth c Z F E H locs cells slots la hH hL hcc hss hl
  subst hst
  obtain ⟨hx, hb, hml, hown, hts, hKs, hf1, hf2, hf3, hf4, -⟩ := id F
  obtain ⟨m0, m1, m2, m3, m4, m5⟩ := hm
  have cb : CallB R s args M.1.cls i M'.1 M'.2.1 M'.2.2.1 M'.2.2.2 _ (zRm d' mc1 ms1) mc1 ms1 np := callB_of np hts (zt_good M'.1 m3) rfl rfl rfl (hts _ m2) (hts _ hw) m4 ⟨by show d' + 1 ≤ _; omega, by show 8 + (M'.2.2.1 + 11) + 200 * d' ≤ _; omega⟩
  have hrecv : ∃ cellB : Cell, H[zad C 4]? = some cellB ∧ cellB.vm.isStatics = false ∧ s.vm.findClass M'.1.cls = some cellB.cls := by
    obtain ⟨cell, q1, q2, q3, -⟩ := (hH.2.1.2.2.2.2.1 0 (by decide)).1
    exact ⟨cell, q1, q2, by rw [hcls]; exact q3⟩
  have hrun := va_runV (As := as.map (zv (zad C))) (b := zad C 4) (rest := st'.map (zv (zad C))) (g := F0 m pc la ((as.reverse ++ zR 4 :: st').map (zv (zad C)))) (locs := locs) (cells := cells) (slots := slots) (below := below) (meth := meth) (e := e) ⟨hx, hb, hml, hown, hts⟩ hc ⟨cb, hts _ m0, hts _ m1⟩ ⟨zPc_blind, hrecv, fun U hU hW => ⟨rfl, hKs.warm hW, by rw [hU]; exact hH.moved hW.alike⟩⟩ rfl (by rw [List.length_map]; exact hn) hl.1 (by simp [zv]) (lv_room (by rw [zct_sum]; exact hcat)) hdg ⟨by omega, by omega⟩
  refine z_back hrun hL fun v n' σ' H1 locs1 hq hH1 hL1 => ?_
  have := kk v n' σ' hq p e R MC MS s m args below meth c Z F E H1 locs1 (cells + mc1) (slots + ms1) la hH1 hL1 (by omega) (by omega) hl
  rw [List.map_append] at this
  exact this
/-! System.arraycopy of ints -/
def zcpy (σ : zM) (a b : Nat) (sp dp k : Int) : zM := fun c y => if c = b ∧ dp ≤ y ∧ y < dp + k then σ a (sp + (y - dp)) else σ c y
theorem z_pairs (at_ : Nat) : ∀ (xs : List Value) (i : Nat) (ce : Cell), at_ + i + xs.length ≤ ce.slots.size →
    (ce.storePairs at_ (xs.zipIdx i)).cls = ce.cls ∧ (ce.storePairs at_ (xs.zipIdx i)).vm = ce.vm ∧ (ce.storePairs at_ (xs.zipIdx i)).slots.size = ce.slots.size ∧ ∀ k : Nat, (ce.storePairs at_ (xs.zipIdx i)).slots[k]? = if at_ + i ≤ k ∧ k < at_ + i + xs.length then xs[k - (at_ + i)]? else ce.slots[k]?
  | [], i, ce, _ => ⟨rfl, rfl, rfl, fun k => by rw [if_neg (by simp only [List.length_nil]; omega)]; rfl⟩
  | x :: xs, i, ce, hl => by
    rw [List.zipIdx_cons]
    obtain ⟨h1, h2, h3, h4⟩ := z_pairs at_ xs (i + 1) (ce.setSlot (at_ + i) x) (by simp only [List.length_cons] at hl; simp only [Cell.setSlot, Array.size_setIfInBounds]; omega)
    refine ⟨h1, h2, by rw [show (ce.storePairs at_ ((x, i) :: xs.zipIdx (i + 1))).slots.size = _ from h3]; simp [Cell.setSlot], fun k => ?_⟩
    rw [show (ce.storePairs at_ ((x, i) :: xs.zipIdx (i + 1))).slots[k]? = _ from h4 k]
    by_cases hk : k = at_ + i
    · subst hk
      rw [if_neg (by omega), if_pos (by simp only [List.length_cons]; omega), Cell.slots_setSlot_self _ (by simp only [List.length_cons] at hl; omega)]
      simp
    · rw [slot_ne _ _ (Ne.symm hk)]
      by_cases h : at_ + (i + 1) ≤ k ∧ k < at_ + (i + 1) + xs.length
      · rw [if_pos h, if_pos (by simp only [List.length_cons]; omega)]
        have e : k - (at_ + i) = (k - (at_ + (i + 1))) + 1 := by omega
        rw [e, List.getElem?_cons_succ]
      · rw [if_neg h, if_neg (by simp only [List.length_cons]; omega)]
theorem g_acopy {a b N0 N1 : Nat} {sp dp k : Int} (hka : zsh C a = (1, N0)) (hkb : zsh C b = (1, N1)) (ha : a < 8 + n) (hb : b < 8 + n) (h8 : 8 ≤ b) (hsp : 0 ≤ sp) (hdp : 0 ≤ dp) (hk : 0 ≤ k) (hs0 : sp + k ≤ N0) (hd0 : dp + k ≤ N1) (hN0 : N0 < 2147483648) (hN1 : N1 < 2147483648) (hv : ∀ y, sp ≤ y → y < sp + k → ∃ x, σ a y = zI x) (hd : 1 ≤ d) (hcat : (st.map zct).sum ≤ 8) (hw : Cond.methodLink M.1.cls i arraycopyName ∈ ztb) (hw2 : Cond.native arraycopyName ∈ ztb) (hw3 : Cond.static arraycopyName ∈ ztb) (hw4 : Cond.initialized "java/lang/System" ∈ ztb) (hdg : decode M.2.1 pc = .ok (.invokestatic i, 3)) (kk : zGo l C M d mc ms (pc + 3) ls st n (zcpy σ a b sp dp k) Q) : zGo l C M d mc ms pc ls (zI k :: zI dp :: zR b :: zI sp :: zR a :: st) n σ Q := by
  intro p e R MC MS s m args below meth c Z F E H locs cells slots la hH hL hc hs hl
  obtain ⟨hx, hbb, hml, hown, hts, hKs, hf1, hf2, hf3, hf4, -⟩ := id F
  obtain ⟨c0, q1, q2, q3, q4, q5⟩ := hH.arr hka (by decide) (by decide) ha
  obtain ⟨c1, r1, r2, r3, r4, r5⟩ := hH.arr hkb (by decide) (by decide) hb
  obtain ⟨v0, k0, hk0, cm0, hkk0⟩ := q2.1
  obtain ⟨v1, k1, hk1, cm1, hkk1⟩ := r2.1
  have h8' : zz C ≤ zad C b := by rw [hKs.1 b h8]; exact Nat.le_add_right _ _
  have esp : (Int32.ofInt sp).toNatClampNeg = sp.toNat := zi_nat hsp (by omega)
  have edp : (Int32.ofInt dp).toNatClampNeg = dp.toNat := zi_nat hdp (by omega)
  have ek : (Int32.ofInt k).toNatClampNeg = k.toNat := zi_nat hk (by omega)
  intro T hT X
  obtain ⟨vm', X', step⟩ := X.arraycopy hx hown (hts _ hw) (hts _ hw2) (hts _ hw3) (hts _ hw4) (src := zad C a) (dst := zad C b) (cs := c0) (cd := c1) (srcPos := Int32.ofInt sp) (destPos := Int32.ofInt dp) (n := Int32.ofInt k) (by rw [hT]; exact q1) (by rw [hT]; exact r1) v0 v1 q3 r3 hk0 hk1 hkk0 hkk1 (by decide)
    (by rw [zi_lt0 ⟨by omega, by omega⟩]; omega) (by rw [zi_lt0 ⟨by omega, by omega⟩]; omega) (by rw [zi_lt0 ⟨by omega, by omega⟩]; omega)
    (by rw [zi_to ⟨by omega, by omega⟩, zi_to ⟨by omega, by omega⟩, q4]; omega) (by rw [zi_to ⟨by omega, by omega⟩, zi_to ⟨by omega, by omega⟩, r4]; omega)
    (fun vm₁ _ j hj => by
      rw [ek] at hj
      have e0 : c0.slots.getD ((Int32.ofInt sp).toNatClampNeg + j) .null = zv (zad C) (σ a (sp + j)) := by
        rw [esp, Array.getD_eq_getD_getElem?, q5 _ (by omega)]
        show zv (zad C) (σ a ((sp.toNat + j : Nat) : Int)) = _
        congr 2
        omega
      obtain ⟨x, hx⟩ := hv (sp + j) (by omega) (by omega)
      rw [e0, hx]
      exact ⟨rfl, trivial⟩)
    (g := F0 m pc la ((zI k :: zI dp :: zR b :: zI sp :: zR a :: st).map (zv (zad C)))) rfl (by rw [hml]; exact hl.1) (rest := st.map (zv (zad C))) rfl (by rw [hbb]; exact hdg) (by omega) (by
      show 2 * 0 + ((st.map (zv (zad C))).map fun v => v.category).sum + (7 + 11) ≤ _
      rw [zct_sum]
      omega)
  have hst : c0.stretch sp.toNat k.toNat = (List.range k.toNat).map (fun j : Nat => zv (zad C) (σ a (sp + (j : Int)))) := by
    unfold Cell.stretch
    apply List.map_congr_left
    intro j hj
    have hj' := List.mem_range.mp hj
    rw [Array.getD_eq_getD_getElem?, q5 _ (by omega)]
    show zv (zad C) (σ a ((sp.toNat + j : Nat) : Int)) = _
    congr 2
    omega
  have hcop : copied c0 c1 (Int32.ofInt sp) (Int32.ofInt dp) (Int32.ofInt k) = c1.storePairs dp.toNat (((List.range k.toNat).map (fun j : Nat => zv (zad C) (σ a (sp + (j : Int))))).zipIdx 0) := by
    unfold copied
    rw [esp, edp, ek, hst]
    rfl
  obtain ⟨p1, p2, p3, p4⟩ := z_pairs dp.toNat ((List.range k.toNat).map (fun j : Nat => zv (zad C) (σ a (sp + (j : Int))))) 0 c1 (by simp only [List.length_map, List.length_range]; omega)
  rw [← hcop] at p1 p2 p3 p4
  generalize hcc : copied c0 c1 (Int32.ofInt sp) (Int32.ofInt dp) (Int32.ofInt k) = cn at X' step p1 p2 p3 p4
  have hlt : zad C b < H.size := (Array.getElem?_eq_some_iff.mp r1).1
  have hheap : ((T.setVm vm').setCell (zad C b) cn).heap = H.setIfInBounds (zad C b) cn := by rw [← hT]; rfl
  have e1 : (H.setIfInBounds (zad C b) cn)[zad C b]? = some cn := by simp [Array.getElem?_setIfInBounds, hlt]
  have e3 : ∀ q : Nat, q ≠ zad C b → (H.setIfInBounds (zad C b) cn)[q]? = H[q]? := fun q hq => by simp [Array.getElem?_setIfInBounds, Ne.symm hq]
  have hcell : zArr (zad C) s (zTy 1) N1 (zad C b) (zcpy σ a b sp dp k b) (H.setIfInBounds (zad C b) cn) := by
    refine ⟨cn, e1, ⟨⟨by rw [p2]; exact v1, k1, by rw [p1]; exact hk1, cm1, hkk1⟩, fun Cn h => by cases h⟩, by rw [p2]; exact r3, by rw [p3]; exact r4, fun j hj => ?_⟩
    rw [p4 j]
    simp only [List.length_map, List.length_range, Nat.add_zero, zcpy, true_and]
    by_cases h : dp.toNat ≤ j ∧ j < dp.toNat + k.toNat
    · rw [if_pos h, if_pos (by omega), List.getElem?_map, List.getElem?_range (by omega)]
      show some (zv (zad C) (σ a (sp + ((j - dp.toNat : Nat) : Int)))) = _
      congr 3
      omega
    · rw [if_neg h, if_neg (by omega), r5 j hj]
  obtain ⟨t, a1, b1⟩ := kk p e R MC MS s m args below meth c Z F E (H.setIfInBounds (zad C b) cn) _ cells slots la (hH.set hKs h8 (by simp) e3 (fun b' hb' => by funext y; simp [zcpy, hb']) ⟨fun _ _ => by rw [hkb]; exact hcell, fun q => by rw [hkb] at q; omega⟩) (fun q hq => by
      rcases List.mem_append.mp hq with h | h
      · exact hL q h
      · obtain ⟨z, -, hz⟩ := List.mem_map.mp h
        rw [← hz]
        exact h8') hc hs hl _ hheap X'
  exact ⟨t, step t a1, b1⟩
/-! making -/
theorem zHp.push {U : State} {H H1 : Heap} (hK : zKs C U) (h : zHp C U n σ H) (z1 : H1.size = zz C + n + 1) (o1 : ∀ q : Nat, q < zz C + n → H1[q]? = H[q]?) {σ' : zM} (hold : ∀ b, b < 8 + n → σ' b = σ b) (hc : zCell C U (zsh C (8 + n)) (zad C (8 + n)) (σ' (8 + n)) H1) : zHp C U (n + 1) σ' H1 := by
  have hlt : ∀ b, b < 8 + n → zad C b < zz C + n := fun b hb => by
    rcases Nat.lt_or_ge b 8 with h8 | h8
    · have := hK.2.1 b h8
      omega
    · rw [hK.1 b h8]
      omega
  refine ⟨by rw [z1]; omega, h.2.1.kept fun q hq _ => o1 q (by rw [h.1] at hq; exact hq), fun b hb => ?_⟩
  by_cases hb2 : b = 8 + n
  · subst hb2
    exact hc
  · rw [hold b (by omega)]
    exact (h.2.2 b (by omega)).kept (o1 _ (hlt b (by omega)))
theorem g_new {ci nn : Nat} {r : vw_C} {σ' : zM} (hr : vwCl[ci]? = some r) (hok : zClsOk r) (hw : Cond.classLink M.1.cls i r.1 ∈ ztb) (hins : Cond.instantiable r.1 nn ∈ ztb) (hini : Cond.initialized r.1 ∈ ztb) (hsh : (zsh C (8 + n)).1 = 10 + ci) (hold : ∀ b, b < 8 + n → σ' b = σ b) (hdf : ∀ k t, k < r.2.2 → parseFieldDescriptor (r.2.1 k).2.2.1 = some t → zv (zad C) (σ' (8 + n) (k : Int)) = defaultValue t) (hmc : mc + 1 = mc2) (hms : ms + nn = ms2) (hdg : decode M.2.1 pc = .ok (.new i, 3)) (kk : zGo l C M d mc ms (pc + 3) ls (zR (8 + n) :: st) (n + 1) σ' Q) : zGo l C M d mc2 ms2 pc ls st n σ Q := by
  intro p e R MC MS s m args below meth c Z F E H locs cells slots la hH hL hc hs hl
  obtain ⟨hx, hbb, hml, hown, hts, hKs, hf1, hf2, hf3, hf4, -⟩ := id F
  obtain ⟨hin, ⟨ty0, hty⟩, hnm⟩ := hok
  have hKn := hKs.2.2.1.1 ci _ hr
  have had : zad C (8 + n) = zz C + n := by rw [hKs.1 _ (by omega)]; omega
  refine W.newcK hx hbb hown (hts _ hw) (hts _ hins) (hts _ hini) rfl hdg (by omega) (by omega) hKn.2.1 hH.1 fun H' kC h1 h2 h3 h4 => ?_
  have hborn := u_born ty0 hts hin hKn h1 h2 hty
  have hc' : zCell C s (zsh C (8 + n)) (zad C (8 + n)) (σ' (8 + n)) H' := by
    refine ⟨fun _ q => by omega, fun _ => ?_⟩
    rw [hsh, show 10 + ci - 10 = ci by omega, had]
    exact ⟨r, hr, hborn.to (fun k hk => (hdf k _ hk (hty k hk)).symm)⟩
  have := kk p e R MC MS s m args below meth c Z F E H' locs (cells + 1) (slots + nn) la (hH.push hKs h3 h4 hold hc') hL (by omega) (by omega) hl
  rw [List.map_cons, show zv (zad C) (zR (8 + n)) = Value.ref (zz C + n) by simp [zv, had]] at this
  exact this
theorem z_newa {at_ : ArrayType} {k N : Nat} {x : Int} {v0 : zV} {σ' : zM} (hk : zTy k = newarray.typeOf at_) (hk1 : 0 < k) (hk2 : k < 3) (hv0 : ∀ ad, zv ad v0 = defaultValue (newarray.typeOf at_)) (hw : Cond.arrayClass (newarray.typeOf at_) ∈ ztb) (hx : x = (N : Int)) (hN : N ≤ 100000) (hby : componentBytes (newarray.typeOf at_) ≤ 8) (hsh : zsh C (8 + n) = (k, N)) (hold : ∀ b, b < 8 + n → σ' b = σ b) (hdf : ∀ j : Nat, j < N → σ' (8 + n) (j : Int) = v0) (hmc : mc + 1 = mc2) (hms : ms + N = ms2) (hdg : decode M.2.1 pc = .ok (.newarray at_, 2)) (kk : zGo l C M d mc ms (pc + 2) ls (zR (8 + n) :: st) (n + 1) σ' Q) : zGo l C M d mc2 ms2 pc ls (zI x :: st) n σ Q := by
  intro p e R MC MS s m args below meth c Z F E H locs cells slots la hH hL hc hs hl
  obtain ⟨hx0, hbb, hml, hown, hts, hKs, hf1, hf2, hf3, hf4, -⟩ := id F
  have had : zad C (8 + n) = zz C + n := by rw [hKs.1 _ (by omega)]; omega
  subst hx
  refine W.newaK hx0 hbb (hts _ hw) rfl hdg rfl (by rw [zi_lt0 ⟨by omega, by omega⟩]; omega) (N := N) (by rw [zi_nat (by omega) (by omega)]; omega) (by have := Nat.mul_le_mul hN hby; omega) (by omega) (by omega) hH.1 fun H' cA h1 h2 h3 h4 => ?_
  have hc' : zCell C s (zsh C (8 + n)) (zad C (8 + n)) (σ' (8 + n)) H' := by
    refine ⟨fun _ _ => ?_, fun q => by rw [hsh] at q; omega⟩
    rw [hsh, had]
    refine ⟨_, h1, ⟨by rw [hk]; exact h4 _ _, fun Cn q => ?_⟩, (fun q => by cases q), arrV_size _ _ _, fun j hj => by rw [arrV_read _ _ hj, hdf j hj, hv0]⟩
    exfalso
    have : k = 1 ∨ k = 2 := by omega
    rcases this with rfl | rfl <;> cases q
  have := kk p e R MC MS s m args below meth c Z F E H' locs (cells + 1) (slots + N) la (hH.push hKs h2 h3 hold hc') hL (by omega) (by omega) hl
  rw [List.map_cons, show zv (zad C) (zR (8 + n)) = Value.ref (zz C + n) by simp [zv, had]] at this
  exact this
theorem g_newI {N : Nat} {x : Int} {σ' : zM} (hw : Cond.arrayClass .int ∈ ztb) (hx : x = (N : Int)) (hN : N ≤ 100000) (hsh : zsh C (8 + n) = (1, N)) (hold : ∀ b, b < 8 + n → σ' b = σ b) (hdf : ∀ j : Nat, j < N → σ' (8 + n) (j : Int) = zI 0) (hmc : mc + 1 = mc2) (hms : ms + N = ms2) (hdg : decode M.2.1 pc = .ok (.newarray .int, 2)) (kk : zGo l C M d mc ms (pc + 2) ls (zR (8 + n) :: st) (n + 1) σ' Q) : zGo l C M d mc2 ms2 pc ls (zI x :: st) n σ Q :=
  z_newa (at_ := .int) (k := 1) (v0 := zI 0) rfl (by decide) (by decide) (fun _ => rfl) hw hx hN (by decide) hsh hold hdf hmc hms hdg kk
theorem g_newZ {N : Nat} {x : Int} {σ' : zM} (hw : Cond.arrayClass .boolean ∈ ztb) (hx : x = (N : Int)) (hN : N ≤ 100000) (hsh : zsh C (8 + n) = (2, N)) (hold : ∀ b, b < 8 + n → σ' b = σ b) (hdf : ∀ j : Nat, j < N → σ' (8 + n) (j : Int) = zI 0) (hmc : mc + 1 = mc2) (hms : ms + N = ms2) (hdg : decode M.2.1 pc = .ok (.newarray .boolean, 2)) (kk : zGo l C M d mc ms (pc + 2) ls (zR (8 + n) :: st) (n + 1) σ' Q) : zGo l C M d mc2 ms2 pc ls (zI x :: st) n σ Q :=
  z_newa (at_ := .boolean) (k := 2) (v0 := zI 0) rfl (by decide) (by decide) (fun _ => rfl) hw hx hN (by decide) hsh hold hdf hmc hms hdg kk
theorem g_anew {N : Nat} {x : Int} {σ' : zM} (hw : Cond.classLink M.1.cls i "DrumPeace$Town" ∈ ztb) (hx : x = (N : Int)) (hN : N ≤ 100000) (hsh : zsh C (8 + n) = (3, N)) (hold : ∀ b, b < 8 + n → σ' b = σ b) (hdf : ∀ j : Nat, j < N → σ' (8 + n) (j : Int) = zN) (hmc : mc + 1 = mc2) (hms : ms + N = ms2) (hdg : decode M.2.1 pc = .ok (.anewarray i, 3)) (kk : zGo l C M d mc ms (pc + 3) ls (zR (8 + n) :: st) (n + 1) σ' Q) : zGo l C M d mc2 ms2 pc ls (zI x :: st) n σ Q := by
  intro p e R MC MS s m args below meth c Z F E H locs cells slots la hH hL hc hs hl
  obtain ⟨hx0, hbb, hml, hown, hts, hKs, hf1, hf2, hf3, hf4, -⟩ := id F
  have had : zad C (8 + n) = zz C + n := by rw [hKs.1 _ (by omega)]; omega
  subst hx
  have eN : (Int32.ofInt (N : Int)).toNatClampNeg = N := by rw [zi_nat (by omega) (by omega)]; omega
  refine W.anew hx0 hbb hown (hts _ hw) (va_AO.use hKs.2.2.2.2.2.1) rfl hdg rfl (by rw [zi_lt0 ⟨by omega, by omega⟩]; omega) (by rw [eN]; omega) (by omega) (by rw [eN]; omega) fun cA kA comp h1 h2 h3 h4 => ?_
  rw [eN, hH.1]
  have hsz : (H.push { cls := cA, slots := Array.replicate N Value.null, vm := .none }).size = zz C + n + 1 := by rw [Array.size_push, hH.1]
  have hnew : (H.push { cls := cA, slots := Array.replicate N Value.null, vm := .none })[zz C + n]? = some { cls := cA, slots := Array.replicate N Value.null, vm := .none } := by rw [← hH.1]; simp
  have hoth : ∀ q : Nat, q < zz C + n → (H.push { cls := cA, slots := Array.replicate N Value.null, vm := .none })[q]? = H[q]? := fun q hq => by
    rw [Array.getElem?_push, if_neg (by rw [hH.1]; omega)]
  have hc' : zCell C s (zsh C (8 + n)) (zad C (8 + n)) (σ' (8 + n)) (H.push { cls := cA, slots := Array.replicate N Value.null, vm := .none }) := by
    refine ⟨fun _ _ => ?_, fun q => by rw [hsh] at q; omega⟩
    rw [hsh, had]
    refine ⟨_, hnew, ⟨⟨fun q h => (by cases h), kA, h2, comp, h3⟩, fun Cn q => ?_⟩, (fun q => by cases q), by simp, fun j hj => ?_⟩
    · cases q
      exact h1
    · rw [hdf j hj]
      simp [hj, zv]
  have := kk p e R MC MS s m args below meth c Z F E _ locs (cells + 1) (slots + N) la (hH.push hKs hsz hoth hold hc') hL (by omega) (by omega) hl
  rw [List.map_cons, show zv (zad C) (zR (8 + n)) = Value.ref (zz C + n) by simp [zv, had]] at this
  exact this
theorem g_oinit {a : Nat} (hw : Cond.methodLink M.1.cls i Lib.objectInit ∈ ztb) (hw2 : Cond.instanceMethod Lib.objectInit ∈ ztb) (hw3 : Cond.code Lib.objectInit ⟨#[0xb1]⟩ 1 none ∈ ztb) (hd : 1 ≤ d) (hcat : (st.map zct).sum ≤ 8) (hdg : decode M.2.1 pc = .ok (.invokespecial i, 3)) (kk : zGo l C M d mc ms (pc + 3) ls st n σ Q) : zGo l C M d mc ms pc ls (zR a :: st) n σ Q := by
  intro p e R MC MS s m args below meth c Z F E H locs cells slots la hH hL hc hs hl
  obtain ⟨hx0, hbb, hml, hown, hts, hKs, hf1, hf2, hf3, hf4, -⟩ := id F
  refine W.objInit (g := F0 m pc la ((zR a :: st).map (zv (zad C)))) hx0 hbb hown (hts _ hw) (hts _ hw2) (hts _ hw3) rfl (by rw [hml]; exact hl.1) rfl hdg (by omega) ?_ (kk p e R MC MS s m args below meth c Z F E H locs cells slots la hH hL hc hs hl)
  show 2 * 0 + ((st.map (zv (zad C))).map fun v => v.category).sum + 12 ≤ _
  rw [zct_sum]
  omega
end
end
