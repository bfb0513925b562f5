/-- a private method of a class that the tables say can be made, by its rows of tables_1 -/
def lw_okq (q : MethodName × Nat) : Prop := (q.1.cls ≠ "java/lang/invoke/MethodHandle" ∧ q.1.cls ≠ "java/lang/invoke/VarHandle") ∧ Cond.instantiable q.1.cls q.2 ∈ tables_1 ∧ Cond.privateMethod q.1 ∈ tables_1 ∧ Cond.instanceMethod q.1 ∈ tables_1
theorem lw_p0 : lw_okq (⟨"SameTuesday", "sheetOf", "(I)LSameTuesday$Sheet;"⟩, 7) := ⟨⟨by decide +kernel, by decide +kernel⟩, List.mem_of_getElem? (i := 19) (by decide +kernel), List.mem_of_getElem? (i := 189) (by decide +kernel), List.mem_of_getElem? (i := 190) (by decide +kernel)⟩
theorem lw_p1 : lw_okq (⟨"SameTuesday", "refusalOfCells", "(LSameTuesday$Sheet;III)I"⟩, 7) := ⟨⟨by decide +kernel, by decide +kernel⟩, List.mem_of_getElem? (i := 19) (by decide +kernel), List.mem_of_getElem? (i := 193) (by decide +kernel), List.mem_of_getElem? (i := 194) (by decide +kernel)⟩
theorem lw_p2 : lw_okq (⟨"SameTuesday", "faulty", "(I)I"⟩, 7) := ⟨⟨by decide +kernel, by decide +kernel⟩, List.mem_of_getElem? (i := 19) (by decide +kernel), List.mem_of_getElem? (i := 204) (by decide +kernel), List.mem_of_getElem? (i := 205) (by decide +kernel)⟩
theorem lw_p3 : lw_okq (⟨"SameTuesday$Text", "codeAt", "(I)I"⟩, 6) := ⟨⟨by decide +kernel, by decide +kernel⟩, List.mem_of_getElem? (i := 216) (by decide +kernel), List.mem_of_getElem? (i := 245) (by decide +kernel), List.mem_of_getElem? (i := 246) (by decide +kernel)⟩
theorem lw_p4 : lw_okq (⟨"SameTuesday$Text", "passPart", "()Z"⟩, 6) := ⟨⟨by decide +kernel, by decide +kernel⟩, List.mem_of_getElem? (i := 216) (by decide +kernel), List.mem_of_getElem? (i := 253) (by decide +kernel), List.mem_of_getElem? (i := 254) (by decide +kernel)⟩
theorem lw_p5 : lw_okq (⟨"SameTuesday$Text", "digitAt", "(I)I"⟩, 6) := ⟨⟨by decide +kernel, by decide +kernel⟩, List.mem_of_getElem? (i := 216) (by decide +kernel), List.mem_of_getElem? (i := 284) (by decide +kernel), List.mem_of_getElem? (i := 285) (by decide +kernel)⟩
theorem lw_p6 : lw_okq (⟨"SameTuesday$Town", "noteEvents", "()V"⟩, 6) := ⟨⟨by decide +kernel, by decide +kernel⟩, List.mem_of_getElem? (i := 45) (by decide +kernel), List.mem_of_getElem? (i := 400) (by decide +kernel), List.mem_of_getElem? (i := 401) (by decide +kernel)⟩
theorem lw_p7 : lw_okq (⟨"SameTuesday", "takeRow", "(IIIIZ)I"⟩, 7) := ⟨⟨by decide +kernel, by decide +kernel⟩, List.mem_of_getElem? (i := 19) (by decide +kernel), List.mem_of_getElem? (i := 482) (by decide +kernel), List.mem_of_getElem? (i := 483) (by decide +kernel)⟩
theorem lw_p8 : lw_okq (⟨"SameTuesday$Life", "endDeeds", "(I)V"⟩, 12) := ⟨⟨by decide +kernel, by decide +kernel⟩, List.mem_of_getElem? (i := 74) (by decide +kernel), List.mem_of_getElem? (i := 520) (by decide +kernel), List.mem_of_getElem? (i := 521) (by decide +kernel)⟩
theorem lw_p9 : lw_okq (⟨"SameTuesday$Life", "beginPairs", "(I)V"⟩, 12) := ⟨⟨by decide +kernel, by decide +kernel⟩, List.mem_of_getElem? (i := 74) (by decide +kernel), List.mem_of_getElem? (i := 529) (by decide +kernel), List.mem_of_getElem? (i := 530) (by decide +kernel)⟩
theorem lw_p10 : lw_okq (⟨"SameTuesday$Life", "minuteOfPair", "(I)I"⟩, 12) := ⟨⟨by decide +kernel, by decide +kernel⟩, List.mem_of_getElem? (i := 74) (by decide +kernel), List.mem_of_getElem? (i := 533) (by decide +kernel), List.mem_of_getElem? (i := 534) (by decide +kernel)⟩
theorem lw_p11 : lw_okq (⟨"SameTuesday$Life", "deedOfPair", "(I)LSameTuesday$Deed;"⟩, 12) := ⟨⟨by decide +kernel, by decide +kernel⟩, List.mem_of_getElem? (i := 74) (by decide +kernel), List.mem_of_getElem? (i := 537) (by decide +kernel), List.mem_of_getElem? (i := 538) (by decide +kernel)⟩
theorem lw_p12 : lw_okq (⟨"SameTuesday$Life", "begin", "(LSameTuesday$Deed;I)Z"⟩, 12) := ⟨⟨by decide +kernel, by decide +kernel⟩, List.mem_of_getElem? (i := 74) (by decide +kernel), List.mem_of_getElem? (i := 541) (by decide +kernel), List.mem_of_getElem? (i := 542) (by decide +kernel)⟩
theorem lw_p13 : lw_okq (⟨"SameTuesday$Life", "noteWrong", "(I)V"⟩, 12) := ⟨⟨by decide +kernel, by decide +kernel⟩, List.mem_of_getElem? (i := 74) (by decide +kernel), List.mem_of_getElem? (i := 549) (by decide +kernel), List.mem_of_getElem? (i := 550) (by decide +kernel)⟩
theorem lw_p14 : lw_okq (⟨"SameTuesday$Reach", "reckon", "()V"⟩, 5) := ⟨⟨by decide +kernel, by decide +kernel⟩, List.mem_of_getElem? (i := 118) (by decide +kernel), List.mem_of_getElem? (i := 589) (by decide +kernel), List.mem_of_getElem? (i := 590) (by decide +kernel)⟩
theorem lw_p15 : lw_okq (⟨"SameTuesday$Reach", "passHappenings", "(I)V"⟩, 5) := ⟨⟨by decide +kernel, by decide +kernel⟩, List.mem_of_getElem? (i := 118) (by decide +kernel), List.mem_of_getElem? (i := 594) (by decide +kernel), List.mem_of_getElem? (i := 595) (by decide +kernel)⟩
def lw_privs_1 : List (MethodName × Nat) := [(⟨"SameTuesday", "sheetOf", "(I)LSameTuesday$Sheet;"⟩, 7), (⟨"SameTuesday", "refusalOfCells", "(LSameTuesday$Sheet;III)I"⟩, 7), (⟨"SameTuesday", "faulty", "(I)I"⟩, 7), (⟨"SameTuesday$Text", "codeAt", "(I)I"⟩, 6), (⟨"SameTuesday$Text", "passPart", "()Z"⟩, 6), (⟨"SameTuesday$Text", "digitAt", "(I)I"⟩, 6), (⟨"SameTuesday$Town", "noteEvents", "()V"⟩, 6), (⟨"SameTuesday", "takeRow", "(IIIIZ)I"⟩, 7), (⟨"SameTuesday$Life", "endDeeds", "(I)V"⟩, 12), (⟨"SameTuesday$Life", "beginPairs", "(I)V"⟩, 12), (⟨"SameTuesday$Life", "minuteOfPair", "(I)I"⟩, 12), (⟨"SameTuesday$Life", "deedOfPair", "(I)LSameTuesday$Deed;"⟩, 12), (⟨"SameTuesday$Life", "begin", "(LSameTuesday$Deed;I)Z"⟩, 12), (⟨"SameTuesday$Life", "noteWrong", "(I)V"⟩, 12), (⟨"SameTuesday$Reach", "reckon", "()V"⟩, 5), (⟨"SameTuesday$Reach", "passHappenings", "(I)V"⟩, 5)]
theorem lw_r1 : ∀ q ∈ lw_privs_1, lw_okq q := List.forall_mem_cons.mpr ⟨lw_p0, List.forall_mem_cons.mpr ⟨lw_p1, List.forall_mem_cons.mpr ⟨lw_p2, List.forall_mem_cons.mpr ⟨lw_p3, List.forall_mem_cons.mpr ⟨lw_p4, List.forall_mem_cons.mpr ⟨lw_p5, List.forall_mem_cons.mpr ⟨lw_p6, List.forall_mem_cons.mpr ⟨lw_p7, List.forall_mem_cons.mpr ⟨lw_p8, List.forall_mem_cons.mpr ⟨lw_p9, List.forall_mem_cons.mpr ⟨lw_p10, List.forall_mem_cons.mpr ⟨lw_p11, List.forall_mem_cons.mpr ⟨lw_p12, List.forall_mem_cons.mpr ⟨lw_p13, List.forall_mem_cons.mpr ⟨lw_p14, List.forall_mem_cons.mpr ⟨lw_p15, fun _ h => absurd h List.not_mem_nil⟩⟩⟩⟩⟩⟩⟩⟩⟩⟩⟩⟩⟩⟩⟩⟩
theorem lw_p16 : lw_okq (⟨"SameTuesday$Reach", "endDeeds", "()V"⟩, 5) := ⟨⟨by decide +kernel, by decide +kernel⟩, List.mem_of_getElem? (i := 118) (by decide +kernel), List.mem_of_getElem? (i := 599) (by decide +kernel), List.mem_of_getElem? (i := 600) (by decide +kernel)⟩
theorem lw_p17 : lw_okq (⟨"SameTuesday$Reach", "beginDeeds", "(I)V"⟩, 5) := ⟨⟨by decide +kernel, by decide +kernel⟩, List.mem_of_getElem? (i := 118) (by decide +kernel), List.mem_of_getElem? (i := 608) (by decide +kernel), List.mem_of_getElem? (i := 609) (by decide +kernel)⟩
theorem lw_p18 : lw_okq (⟨"SameTuesday$Reach", "everyWorld", "()J"⟩, 5) := ⟨⟨by decide +kernel, by decide +kernel⟩, List.mem_of_getElem? (i := 118) (by decide +kernel), List.mem_of_getElem? (i := 613) (by decide +kernel), List.mem_of_getElem? (i := 614) (by decide +kernel)⟩
theorem lw_p19 : lw_okq (⟨"SameTuesday$Life", "endsWith", "(LSameTuesday$Deed;II)Z"⟩, 12) := ⟨⟨by decide +kernel, by decide +kernel⟩, List.mem_of_getElem? (i := 74) (by decide +kernel), List.mem_of_getElem? (i := 723) (by decide +kernel), List.mem_of_getElem? (i := 724) (by decide +kernel)⟩
theorem lw_p20 : lw_okq (⟨"SameTuesdayModel", "against", "(IIII)I"⟩, 34) := ⟨⟨by decide +kernel, by decide +kernel⟩, List.mem_of_getElem? (i := 851) (by decide +kernel), List.mem_of_getElem? (i := 974) (by decide +kernel), List.mem_of_getElem? (i := 975) (by decide +kernel)⟩
theorem lw_p21 : lw_okq (⟨"SameTuesdayModel", "fails", "(I)I"⟩, 34) := ⟨⟨by decide +kernel, by decide +kernel⟩, List.mem_of_getElem? (i := 851) (by decide +kernel), List.mem_of_getElem? (i := 978) (by decide +kernel), List.mem_of_getElem? (i := 979) (by decide +kernel)⟩
theorem lw_p22 : lw_okq (⟨"SameTuesdayModel", "readDay", "(I)Z"⟩, 34) := ⟨⟨by decide +kernel, by decide +kernel⟩, List.mem_of_getElem? (i := 851) (by decide +kernel), List.mem_of_getElem? (i := 982) (by decide +kernel), List.mem_of_getElem? (i := 983) (by decide +kernel)⟩
theorem lw_p23 : lw_okq (⟨"SameTuesdayModel", "isSign", "(II)Z"⟩, 34) := ⟨⟨by decide +kernel, by decide +kernel⟩, List.mem_of_getElem? (i := 851) (by decide +kernel), List.mem_of_getElem? (i := 986) (by decide +kernel), List.mem_of_getElem? (i := 987) (by decide +kernel)⟩
theorem lw_p24 : lw_okq (⟨"SameTuesdayModel", "readHappening", "(I)Z"⟩, 34) := ⟨⟨by decide +kernel, by decide +kernel⟩, List.mem_of_getElem? (i := 851) (by decide +kernel), List.mem_of_getElem? (i := 990) (by decide +kernel), List.mem_of_getElem? (i := 991) (by decide +kernel)⟩
theorem lw_p25 : lw_okq (⟨"SameTuesdayModel", "digit", "(III)I"⟩, 34) := ⟨⟨by decide +kernel, by decide +kernel⟩, List.mem_of_getElem? (i := 851) (by decide +kernel), List.mem_of_getElem? (i := 994) (by decide +kernel), List.mem_of_getElem? (i := 995) (by decide +kernel)⟩
theorem lw_p26 : lw_okq (⟨"SameTuesdayModel", "readOneDeed", "(I)Z"⟩, 34) := ⟨⟨by decide +kernel, by decide +kernel⟩, List.mem_of_getElem? (i := 851) (by decide +kernel), List.mem_of_getElem? (i := 998) (by decide +kernel), List.mem_of_getElem? (i := 999) (by decide +kernel)⟩
theorem lw_p27 : lw_okq (⟨"SameTuesdayModel", "isHappening", "(I)Z"⟩, 34) := ⟨⟨by decide +kernel, by decide +kernel⟩, List.mem_of_getElem? (i := 851) (by decide +kernel), List.mem_of_getElem? (i := 1006) (by decide +kernel), List.mem_of_getElem? (i := 1007) (by decide +kernel)⟩
theorem lw_p28 : lw_okq (⟨"SameTuesdayModel", "isDeed", "(I)Z"⟩, 34) := ⟨⟨by decide +kernel, by decide +kernel⟩, List.mem_of_getElem? (i := 851) (by decide +kernel), List.mem_of_getElem? (i := 1014) (by decide +kernel), List.mem_of_getElem? (i := 1015) (by decide +kernel)⟩
theorem lw_p29 : lw_okq (⟨"SameTuesdayModel", "layRow", "(IIII)I"⟩, 34) := ⟨⟨by decide +kernel, by decide +kernel⟩, List.mem_of_getElem? (i := 851) (by decide +kernel), List.mem_of_getElem? (i := 1033) (by decide +kernel), List.mem_of_getElem? (i := 1034) (by decide +kernel)⟩
theorem lw_p30 : lw_okq (⟨"SameTuesdayModel", "ends", "(I)I"⟩, 34) := ⟨⟨by decide +kernel, by decide +kernel⟩, List.mem_of_getElem? (i := 851) (by decide +kernel), List.mem_of_getElem? (i := 1037) (by decide +kernel), List.mem_of_getElem? (i := 1038) (by decide +kernel)⟩
theorem lw_p31 : lw_okq (⟨"SameTuesdayModel", "goTo", "(II)I"⟩, 34) := ⟨⟨by decide +kernel, by decide +kernel⟩, List.mem_of_getElem? (i := 851) (by decide +kernel), List.mem_of_getElem? (i := 1041) (by decide +kernel), List.mem_of_getElem? (i := 1042) (by decide +kernel)⟩
def lw_privs_2 : List (MethodName × Nat) := [(⟨"SameTuesday$Reach", "endDeeds", "()V"⟩, 5), (⟨"SameTuesday$Reach", "beginDeeds", "(I)V"⟩, 5), (⟨"SameTuesday$Reach", "everyWorld", "()J"⟩, 5), (⟨"SameTuesday$Life", "endsWith", "(LSameTuesday$Deed;II)Z"⟩, 12), (⟨"SameTuesdayModel", "against", "(IIII)I"⟩, 34), (⟨"SameTuesdayModel", "fails", "(I)I"⟩, 34), (⟨"SameTuesdayModel", "readDay", "(I)Z"⟩, 34), (⟨"SameTuesdayModel", "isSign", "(II)Z"⟩, 34), (⟨"SameTuesdayModel", "readHappening", "(I)Z"⟩, 34), (⟨"SameTuesdayModel", "digit", "(III)I"⟩, 34), (⟨"SameTuesdayModel", "readOneDeed", "(I)Z"⟩, 34), (⟨"SameTuesdayModel", "isHappening", "(I)Z"⟩, 34), (⟨"SameTuesdayModel", "isDeed", "(I)Z"⟩, 34), (⟨"SameTuesdayModel", "layRow", "(IIII)I"⟩, 34), (⟨"SameTuesdayModel", "ends", "(I)I"⟩, 34), (⟨"SameTuesdayModel", "goTo", "(II)I"⟩, 34)]
theorem lw_r2 : ∀ q ∈ lw_privs_2, lw_okq q := List.forall_mem_cons.mpr ⟨lw_p16, List.forall_mem_cons.mpr ⟨lw_p17, List.forall_mem_cons.mpr ⟨lw_p18, List.forall_mem_cons.mpr ⟨lw_p19, List.forall_mem_cons.mpr ⟨lw_p20, List.forall_mem_cons.mpr ⟨lw_p21, List.forall_mem_cons.mpr ⟨lw_p22, List.forall_mem_cons.mpr ⟨lw_p23, List.forall_mem_cons.mpr ⟨lw_p24, List.forall_mem_cons.mpr ⟨lw_p25, List.forall_mem_cons.mpr ⟨lw_p26, List.forall_mem_cons.mpr ⟨lw_p27, List.forall_mem_cons.mpr ⟨lw_p28, List.forall_mem_cons.mpr ⟨lw_p29, List.forall_mem_cons.mpr ⟨lw_p30, List.forall_mem_cons.mpr ⟨lw_p31, fun _ h => absurd h List.not_mem_nil⟩⟩⟩⟩⟩⟩⟩⟩⟩⟩⟩⟩⟩⟩⟩⟩
theorem lw_p32 : lw_okq (⟨"SameTuesdayModel", "happen", "(III)I"⟩, 34) := ⟨⟨by decide +kernel, by decide +kernel⟩, List.mem_of_getElem? (i := 851) (by decide +kernel), List.mem_of_getElem? (i := 1045) (by decide +kernel), List.mem_of_getElem? (i := 1046) (by decide +kernel)⟩
theorem lw_p33 : lw_okq (⟨"SameTuesdayModel", "done", "(II)I"⟩, 34) := ⟨⟨by decide +kernel, by decide +kernel⟩, List.mem_of_getElem? (i := 851) (by decide +kernel), List.mem_of_getElem? (i := 1052) (by decide +kernel), List.mem_of_getElem? (i := 1053) (by decide +kernel)⟩
theorem lw_p34 : lw_okq (⟨"SameTuesdayModel", "pairIn", "(I)I"⟩, 34) := ⟨⟨by decide +kernel, by decide +kernel⟩, List.mem_of_getElem? (i := 851) (by decide +kernel), List.mem_of_getElem? (i := 1056) (by decide +kernel), List.mem_of_getElem? (i := 1057) (by decide +kernel)⟩
theorem lw_p35 : lw_okq (⟨"SameTuesdayModel", "mayBegin", "(III)Z"⟩, 34) := ⟨⟨by decide +kernel, by decide +kernel⟩, List.mem_of_getElem? (i := 851) (by decide +kernel), List.mem_of_getElem? (i := 1060) (by decide +kernel), List.mem_of_getElem? (i := 1061) (by decide +kernel)⟩
theorem lw_p36 : lw_okq (⟨"SameTuesdayModel", "goStates", "(I)V"⟩, 34) := ⟨⟨by decide +kernel, by decide +kernel⟩, List.mem_of_getElem? (i := 851) (by decide +kernel), List.mem_of_getElem? (i := 1079) (by decide +kernel), List.mem_of_getElem? (i := 1080) (by decide +kernel)⟩
theorem lw_p37 : lw_okq (⟨"SameTuesdayModel", "beginStates", "()V"⟩, 34) := ⟨⟨by decide +kernel, by decide +kernel⟩, List.mem_of_getElem? (i := 851) (by decide +kernel), List.mem_of_getElem? (i := 1083) (by decide +kernel), List.mem_of_getElem? (i := 1084) (by decide +kernel)⟩
theorem lw_p38 : lw_okq (⟨"SameTuesdayModel", "goMinute", "(I)V"⟩, 34) := ⟨⟨by decide +kernel, by decide +kernel⟩, List.mem_of_getElem? (i := 851) (by decide +kernel), List.mem_of_getElem? (i := 1087) (by decide +kernel), List.mem_of_getElem? (i := 1088) (by decide +kernel)⟩
theorem lw_p39 : lw_okq (⟨"SameTuesdayModel", "happenIdle", "(I)V"⟩, 34) := ⟨⟨by decide +kernel, by decide +kernel⟩, List.mem_of_getElem? (i := 851) (by decide +kernel), List.mem_of_getElem? (i := 1091) (by decide +kernel), List.mem_of_getElem? (i := 1092) (by decide +kernel)⟩
theorem lw_p40 : lw_okq (⟨"SameTuesdayModel", "happenBusy", "(II)V"⟩, 34) := ⟨⟨by decide +kernel, by decide +kernel⟩, List.mem_of_getElem? (i := 851) (by decide +kernel), List.mem_of_getElem? (i := 1095) (by decide +kernel), List.mem_of_getElem? (i := 1096) (by decide +kernel)⟩
theorem lw_p41 : lw_okq (⟨"SameTuesdayModel", "endDeeds", "(I)V"⟩, 34) := ⟨⟨by decide +kernel, by decide +kernel⟩, List.mem_of_getElem? (i := 851) (by decide +kernel), List.mem_of_getElem? (i := 1099) (by decide +kernel), List.mem_of_getElem? (i := 1100) (by decide +kernel)⟩
theorem lw_p42 : lw_okq (⟨"SameTuesdayModel", "beginDeeds", "(I)V"⟩, 34) := ⟨⟨by decide +kernel, by decide +kernel⟩, List.mem_of_getElem? (i := 851) (by decide +kernel), List.mem_of_getElem? (i := 1106) (by decide +kernel), List.mem_of_getElem? (i := 1107) (by decide +kernel)⟩
theorem lw_p43 : lw_okq (⟨"SameTuesdayModel", "layCanBe", "()V"⟩, 34) := ⟨⟨by decide +kernel, by decide +kernel⟩, List.mem_of_getElem? (i := 851) (by decide +kernel), List.mem_of_getElem? (i := 1110) (by decide +kernel), List.mem_of_getElem? (i := 1111) (by decide +kernel)⟩
theorem lw_p44 : lw_okq (⟨"SameTuesdayModel", "isWithinOne", "(I)Z"⟩, 34) := ⟨⟨by decide +kernel, by decide +kernel⟩, List.mem_of_getElem? (i := 851) (by decide +kernel), List.mem_of_getElem? (i := 1118) (by decide +kernel), List.mem_of_getElem? (i := 1119) (by decide +kernel)⟩
theorem lw_p45 : lw_okq (⟨"SameTuesdayModel", "isLaw", "(I)Z"⟩, 34) := ⟨⟨by decide +kernel, by decide +kernel⟩, List.mem_of_getElem? (i := 851) (by decide +kernel), List.mem_of_getElem? (i := 1138) (by decide +kernel), List.mem_of_getElem? (i := 1139) (by decide +kernel)⟩
theorem lw_p46 : lw_okq (⟨"SameTuesdayModel", "parted", "(I)I"⟩, 34) := ⟨⟨by decide +kernel, by decide +kernel⟩, List.mem_of_getElem? (i := 851) (by decide +kernel), List.mem_of_getElem? (i := 1153) (by decide +kernel), List.mem_of_getElem? (i := 1154) (by decide +kernel)⟩
theorem lw_p47 : lw_okq (⟨"SameTuesdayModel", "lost", "(I)J"⟩, 34) := ⟨⟨by decide +kernel, by decide +kernel⟩, List.mem_of_getElem? (i := 851) (by decide +kernel), List.mem_of_getElem? (i := 1185) (by decide +kernel), List.mem_of_getElem? (i := 1186) (by decide +kernel)⟩
def lw_privs_3 : List (MethodName × Nat) := [(⟨"SameTuesdayModel", "happen", "(III)I"⟩, 34), (⟨"SameTuesdayModel", "done", "(II)I"⟩, 34), (⟨"SameTuesdayModel", "pairIn", "(I)I"⟩, 34), (⟨"SameTuesdayModel", "mayBegin", "(III)Z"⟩, 34), (⟨"SameTuesdayModel", "goStates", "(I)V"⟩, 34), (⟨"SameTuesdayModel", "beginStates", "()V"⟩, 34), (⟨"SameTuesdayModel", "goMinute", "(I)V"⟩, 34), (⟨"SameTuesdayModel", "happenIdle", "(I)V"⟩, 34), (⟨"SameTuesdayModel", "happenBusy", "(II)V"⟩, 34), (⟨"SameTuesdayModel", "endDeeds", "(I)V"⟩, 34), (⟨"SameTuesdayModel", "beginDeeds", "(I)V"⟩, 34), (⟨"SameTuesdayModel", "layCanBe", "()V"⟩, 34), (⟨"SameTuesdayModel", "isWithinOne", "(I)Z"⟩, 34), (⟨"SameTuesdayModel", "isLaw", "(I)Z"⟩, 34), (⟨"SameTuesdayModel", "parted", "(I)I"⟩, 34), (⟨"SameTuesdayModel", "lost", "(I)J"⟩, 34)]
theorem lw_r3 : ∀ q ∈ lw_privs_3, lw_okq q := List.forall_mem_cons.mpr ⟨lw_p32, List.forall_mem_cons.mpr ⟨lw_p33, List.forall_mem_cons.mpr ⟨lw_p34, List.forall_mem_cons.mpr ⟨lw_p35, List.forall_mem_cons.mpr ⟨lw_p36, List.forall_mem_cons.mpr ⟨lw_p37, List.forall_mem_cons.mpr ⟨lw_p38, List.forall_mem_cons.mpr ⟨lw_p39, List.forall_mem_cons.mpr ⟨lw_p40, List.forall_mem_cons.mpr ⟨lw_p41, List.forall_mem_cons.mpr ⟨lw_p42, List.forall_mem_cons.mpr ⟨lw_p43, List.forall_mem_cons.mpr ⟨lw_p44, List.forall_mem_cons.mpr ⟨lw_p45, List.forall_mem_cons.mpr ⟨lw_p46, List.forall_mem_cons.mpr ⟨lw_p47, fun _ h => absurd h List.not_mem_nil⟩⟩⟩⟩⟩⟩⟩⟩⟩⟩⟩⟩⟩⟩⟩⟩
theorem lw_p48 : lw_okq (⟨"SameTuesdayModel", "begins", "(I)V"⟩, 34) := ⟨⟨by decide +kernel, by decide +kernel⟩, List.mem_of_getElem? (i := 851) (by decide +kernel), List.mem_of_getElem? (i := 1197) (by decide +kernel), List.mem_of_getElem? (i := 1198) (by decide +kernel)⟩
def lw_privs_4 : List (MethodName × Nat) := [(⟨"SameTuesdayModel", "begins", "(I)V"⟩, 34)]
theorem lw_r4 : ∀ q ∈ lw_privs_4, lw_okq q := List.forall_mem_cons.mpr ⟨lw_p48, fun _ h => absurd h List.not_mem_nil⟩
def lw_privs : List (MethodName × Nat) := lw_privs_1 ++ (lw_privs_2 ++ (lw_privs_3 ++ (lw_privs_4)))
def lw_tbl : List Cond := k2_sels lw_privs ++ tables_1
theorem lw_privs_ok : ∀ q ∈ lw_privs, lw_okq q := by
  show ∀ q ∈ lw_privs_1 ++ (lw_privs_2 ++ (lw_privs_3 ++ (lw_privs_4))), lw_okq q
  exact List.forall_mem_append.mpr ⟨lw_r1, List.forall_mem_append.mpr ⟨lw_r2, List.forall_mem_append.mpr ⟨lw_r3, lw_r4⟩⟩⟩
def zb_tb : List Cond := lw_tbl.filter goodWord
theorem zb_mem {w : Cond} (i : Nat) (h : lw_tbl[i]? = some w) (g : goodWord w = true) : w ∈ zb_tb := List.mem_filter.mpr ⟨List.mem_of_getElem? h, g⟩
def zF_Cap : u_T := fun k => match k with
  | 0 => ("SameTuesday$Happening", "number", "I", true)
  | 1 => ("SameTuesday$Happening", "need", "I", true)
  | 2 => ("SameTuesday$Happening", "fact", "I", true)
  | 3 => ("SameTuesday$Happening", "met", "J", true)
  | 4 => ("SameTuesday$Happening", "so", "J", true)
  | _ => ("SameTuesday$Happening", "minute", "I", false)
def zt_Cap : Nat → FieldType := fun k => match k with
  | 0 => .int
  | 1 => .int
  | 2 => .int
  | 3 => .long
  | 4 => .long
  | _ => .int
theorem zn_Cap : ∀ a, a < 6 → ∀ b, b < 6 → a ≠ b → (zF_Cap a).2.1 ≠ (zF_Cap b).2.1 := by decide +kernel
theorem zk_Cap : ∀ k, k < 6 → parseFieldDescriptor (zF_Cap k).2.2.1 = some (zt_Cap k) := by decide +kernel
theorem zi0_Cap : ∀ k, k < 6 → u_lay "SameTuesday$Caprice" zF_Cap k ∈ zb_tb := fun k hk => match k, hk with
  | 0, _ => zb_mem 392 rfl rfl
  | 1, _ => zb_mem 393 rfl rfl
  | 2, _ => zb_mem 394 rfl rfl
  | 3, _ => zb_mem 395 rfl rfl
  | 4, _ => zb_mem 396 rfl rfl
  | 5, _ => zb_mem 397 rfl rfl
  | k + 6, hk => absurd hk (by omega)
theorem zi_Cap : ∀ w ∈ u_ws "SameTuesday$Caprice" zF_Cap 6, w ∈ zb_tb := fun w hw => by
  obtain ⟨k, hk, rfl⟩ := List.mem_map.mp hw
  exact zi0_Cap k (List.mem_range.mp hk)
def zF_Deed : u_T := fun k => match k with
  | 0 => ("SameTuesday$Deed", "need", "I", true)
  | 1 => ("SameTuesday$Deed", "fact", "I", true)
  | 2 => ("SameTuesday$Deed", "undoes", "I", true)
  | 3 => ("SameTuesday$Deed", "lasts", "I", true)
  | _ => ("SameTuesday$Deed", "met", "J", true)
def zt_Deed : Nat → FieldType := fun k => match k with
  | 0 => .int
  | 1 => .int
  | 2 => .int
  | 3 => .int
  | _ => .long
theorem zn_Deed : ∀ a, a < 5 → ∀ b, b < 5 → a ≠ b → (zF_Deed a).2.1 ≠ (zF_Deed b).2.1 := by decide +kernel
theorem zk_Deed : ∀ k, k < 5 → parseFieldDescriptor (zF_Deed k).2.2.1 = some (zt_Deed k) := by decide +kernel
theorem zi0_Deed : ∀ k, k < 5 → u_lay "SameTuesday$Deed" zF_Deed k ∈ zb_tb := fun k hk => match k, hk with
  | 0, _ => zb_mem 437 rfl rfl
  | 1, _ => zb_mem 439 rfl rfl
  | 2, _ => zb_mem 441 rfl rfl
  | 3, _ => zb_mem 443 rfl rfl
  | 4, _ => zb_mem 445 rfl rfl
  | k + 5, hk => absurd hk (by omega)
theorem zi_Deed : ∀ w ∈ u_ws "SameTuesday$Deed" zF_Deed 5, w ∈ zb_tb := fun w hw => by
  obtain ⟨k, hk, rfl⟩ := List.mem_map.mp hw
  exact zi0_Deed k (List.mem_range.mp hk)
def zF_Hap : u_T := fun k => match k with
  | 0 => ("SameTuesday$Happening", "number", "I", true)
  | 1 => ("SameTuesday$Happening", "need", "I", true)
  | 2 => ("SameTuesday$Happening", "fact", "I", true)
  | 3 => ("SameTuesday$Happening", "met", "J", true)
  | 4 => ("SameTuesday$Happening", "so", "J", true)
  | _ => ("SameTuesday$Happening", "minute", "I", false)
def zt_Hap : Nat → FieldType := fun k => match k with
  | 0 => .int
  | 1 => .int
  | 2 => .int
  | 3 => .long
  | 4 => .long
  | _ => .int
theorem zn_Hap : ∀ a, a < 6 → ∀ b, b < 6 → a ≠ b → (zF_Hap a).2.1 ≠ (zF_Hap b).2.1 := by decide +kernel
theorem zk_Hap : ∀ k, k < 6 → parseFieldDescriptor (zF_Hap k).2.2.1 = some (zt_Hap k) := by decide +kernel
theorem zi0_Hap : ∀ k, k < 6 → u_lay "SameTuesday$Happening" zF_Hap k ∈ zb_tb := fun k hk => match k, hk with
  | 0, _ => zb_mem 402 rfl rfl
  | 1, _ => zb_mem 403 rfl rfl
  | 2, _ => zb_mem 404 rfl rfl
  | 3, _ => zb_mem 405 rfl rfl
  | 4, _ => zb_mem 406 rfl rfl
  | 5, _ => zb_mem 407 rfl rfl
  | k + 6, hk => absurd hk (by omega)
theorem zi_Hap : ∀ w ∈ u_ws "SameTuesday$Happening" zF_Hap 6, w ∈ zb_tb := fun w hw => by
  obtain ⟨k, hk, rfl⟩ := List.mem_map.mp hw
  exact zi0_Hap k (List.mem_range.mp hk)
def zF_Law : u_T := fun k => match k with
  | 0 => ("SameTuesday$Law", "days", "[I", true)
  | _ => ("SameTuesday$Law", "count", "I", false)
def zt_Law : Nat → FieldType := fun k => match k with
  | 0 => .array .int
  | _ => .int
theorem zn_Law : ∀ a, a < 2 → ∀ b, b < 2 → a ≠ b → (zF_Law a).2.1 ≠ (zF_Law b).2.1 := by decide +kernel
theorem zk_Law : ∀ k, k < 2 → parseFieldDescriptor (zF_Law k).2.2.1 = some (zt_Law k) := by decide +kernel
theorem zi0_Law : ∀ k, k < 2 → u_lay "SameTuesday$Law" zF_Law k ∈ zb_tb := fun k hk => match k, hk with
  | 0, _ => zb_mem 196 rfl rfl
  | 1, _ => zb_mem 198 rfl rfl
  | k + 2, hk => absurd hk (by omega)
theorem zi_Law : ∀ w ∈ u_ws "SameTuesday$Law" zF_Law 2, w ∈ zb_tb := fun w hw => by
  obtain ⟨k, hk, rfl⟩ := List.mem_map.mp hw
  exact zi0_Law k (List.mem_range.mp hk)
def zF_Life : u_T := fun k => match k with
  | 0 => ("SameTuesday$Life", "town", "LSameTuesday$Town;", true)
  | 1 => ("SameTuesday$Life", "pairMinutes", "[I", true)
  | 2 => ("SameTuesday$Life", "pairDeeds", "[I", true)
  | 3 => ("SameTuesday$Life", "pairs", "I", false)
  | 4 => ("SameTuesday$Life", "aloneAt", "[J", true)
  | 5 => ("SameTuesday$Life", "world", "J", false)
  | 6 => ("SameTuesday$Life", "going", "LSameTuesday$Deed;", false)
  | 7 => ("SameTuesday$Life", "goingEnds", "I", false)
  | 8 => ("SameTuesday$Life", "nextPair", "I", false)
  | 9 => ("SameTuesday$Life", "firstWrong", "I", false)
  | 10 => ("SameTuesday$Life", "other", "LSameTuesday$Deed;", false)
  | _ => ("SameTuesday$Life", "otherEnds", "I", false)
def zt_Life : Nat → FieldType := fun k => match k with
  | 0 => .object "SameTuesday$Town"
  | 1 => .array .int
  | 2 => .array .int
  | 3 => .int
  | 4 => .array .long
  | 5 => .long
  | 6 => .object "SameTuesday$Deed"
  | 7 => .int
  | 8 => .int
  | 9 => .int
  | 10 => .object "SameTuesday$Deed"
  | _ => .int
theorem zn_Life : ∀ a, a < 12 → ∀ b, b < 12 → a ≠ b → (zF_Life a).2.1 ≠ (zF_Life b).2.1 := by decide +kernel
theorem zk_Life : ∀ k, k < 12 → parseFieldDescriptor (zF_Life k).2.2.1 = some (zt_Life k) := by decide +kernel
theorem zi0_Life : ∀ k, k < 12 → u_lay "SameTuesday$Life" zF_Life k ∈ zb_tb := fun k hk => match k, hk with
  | 0, _ => zb_mem 140 rfl rfl
  | 1, _ => zb_mem 142 rfl rfl
  | 2, _ => zb_mem 144 rfl rfl
  | 3, _ => zb_mem 146 rfl rfl
  | 4, _ => zb_mem 148 rfl rfl
  | 5, _ => zb_mem 150 rfl rfl
  | 6, _ => zb_mem 152 rfl rfl
  | 7, _ => zb_mem 154 rfl rfl
  | 8, _ => zb_mem 156 rfl rfl
  | 9, _ => zb_mem 158 rfl rfl
  | 10, _ => zb_mem 160 rfl rfl
  | 11, _ => zb_mem 162 rfl rfl
  | k + 12, hk => absurd hk (by omega)
theorem zi_Life : ∀ w ∈ u_ws "SameTuesday$Life" zF_Life 12, w ∈ zb_tb := fun w hw => by
  obtain ⟨k, hk, rfl⟩ := List.mem_map.mp hw
  exact zi0_Life k (List.mem_range.mp hk)
def zF_Mis : u_T := fun k => match k with
  | 0 => ("SameTuesday$Happening", "number", "I", true)
  | 1 => ("SameTuesday$Happening", "need", "I", true)
  | 2 => ("SameTuesday$Happening", "fact", "I", true)
  | 3 => ("SameTuesday$Happening", "met", "J", true)
  | 4 => ("SameTuesday$Happening", "so", "J", true)
  | _ => ("SameTuesday$Happening", "minute", "I", false)
def zt_Mis : Nat → FieldType := fun k => match k with
  | 0 => .int
  | 1 => .int
  | 2 => .int
  | 3 => .long
  | 4 => .long
  | _ => .int
theorem zn_Mis : ∀ a, a < 6 → ∀ b, b < 6 → a ≠ b → (zF_Mis a).2.1 ≠ (zF_Mis b).2.1 := by decide +kernel
theorem zk_Mis : ∀ k, k < 6 → parseFieldDescriptor (zF_Mis k).2.2.1 = some (zt_Mis k) := by decide +kernel
theorem zi0_Mis : ∀ k, k < 6 → u_lay "SameTuesday$Mishap" zF_Mis k ∈ zb_tb := fun k hk => match k, hk with
  | 0, _ => zb_mem 373 rfl rfl
  | 1, _ => zb_mem 375 rfl rfl
  | 2, _ => zb_mem 377 rfl rfl
  | 3, _ => zb_mem 379 rfl rfl
  | 4, _ => zb_mem 381 rfl rfl
  | 5, _ => zb_mem 383 rfl rfl
  | k + 6, hk => absurd hk (by omega)
theorem zi_Mis : ∀ w ∈ u_ws "SameTuesday$Mishap" zF_Mis 6, w ∈ zb_tb := fun w hw => by
  obtain ⟨k, hk, rfl⟩ := List.mem_map.mp hw
  exact zi0_Mis k (List.mem_range.mp hk)
def zF_Rch : u_T := fun k => match k with
  | 0 => ("SameTuesday$Reach", "town", "LSameTuesday$Town;", true)
  | 1 => ("SameTuesday$Reach", "worlds", "[J", true)
  | 2 => ("SameTuesday$Reach", "going", "[J", true)
  | 3 => ("SameTuesday$Reach", "free", "J", false)
  | _ => ("SameTuesday$Reach", "spoilt", "Z", false)
def zt_Rch : Nat → FieldType := fun k => match k with
  | 0 => .object "SameTuesday$Town"
  | 1 => .array .long
  | 2 => .array .long
  | 3 => .long
  | _ => .boolean
theorem zn_Rch : ∀ a, a < 5 → ∀ b, b < 5 → a ≠ b → (zF_Rch a).2.1 ≠ (zF_Rch b).2.1 := by decide +kernel
theorem zk_Rch : ∀ k, k < 5 → parseFieldDescriptor (zF_Rch k).2.2.1 = some (zt_Rch k) := by decide +kernel
theorem zi0_Rch : ∀ k, k < 5 → u_lay "SameTuesday$Reach" zF_Rch k ∈ zb_tb := fun k hk => match k, hk with
  | 0, _ => zb_mem 177 rfl rfl
  | 1, _ => zb_mem 179 rfl rfl
  | 2, _ => zb_mem 181 rfl rfl
  | 3, _ => zb_mem 183 rfl rfl
  | 4, _ => zb_mem 185 rfl rfl
  | k + 5, hk => absurd hk (by omega)
theorem zi_Rch : ∀ w ∈ u_ws "SameTuesday$Reach" zF_Rch 5, w ∈ zb_tb := fun w hw => by
  obtain ⟨k, hk, rfl⟩ := List.mem_map.mp hw
  exact zi0_Rch k (List.mem_range.mp hk)
def zF_Sht : u_T := fun k => match k with
  | 0 => ("SameTuesday$Sheet", "cells", "[I", true)
  | 1 => ("SameTuesday$Sheet", "lane", "I", false)
  | _ => ("SameTuesday$Sheet", "size", "I", false)
def zt_Sht : Nat → FieldType := fun k => match k with
  | 0 => .array .int
  | 1 => .int
  | _ => .int
theorem zn_Sht : ∀ a, a < 3 → ∀ b, b < 3 → a ≠ b → (zF_Sht a).2.1 ≠ (zF_Sht b).2.1 := by decide +kernel
theorem zk_Sht : ∀ k, k < 3 → parseFieldDescriptor (zF_Sht k).2.2.1 = some (zt_Sht k) := by decide +kernel
theorem zi0_Sht : ∀ k, k < 3 → u_lay "SameTuesday$Sheet" zF_Sht k ∈ zb_tb := fun k hk => match k, hk with
  | 0, _ => zb_mem 85 rfl rfl
  | 1, _ => zb_mem 87 rfl rfl
  | 2, _ => zb_mem 89 rfl rfl
  | k + 3, hk => absurd hk (by omega)
theorem zi_Sht : ∀ w ∈ u_ws "SameTuesday$Sheet" zF_Sht 3, w ∈ zb_tb := fun w hw => by
  obtain ⟨k, hk, rfl⟩ := List.mem_map.mp hw
  exact zi0_Sht k (List.mem_range.mp hk)
def zF_Txt : u_T := fun k => match k with
  | 0 => ("SameTuesday$Text", "sheet", "LSameTuesday$Sheet;", true)
  | 1 => ("SameTuesday$Text", "start", "I", true)
  | 2 => ("SameTuesday$Text", "length", "I", true)
  | 3 => ("SameTuesday$Text", "place", "I", false)
  | 4 => ("SameTuesday$Text", "happenings", "I", false)
  | _ => ("SameTuesday$Text", "deeds", "I", false)
def zt_Txt : Nat → FieldType := fun k => match k with
  | 0 => .object "SameTuesday$Sheet"
  | 1 => .int
  | 2 => .int
  | 3 => .int
  | 4 => .int
  | _ => .int
theorem zn_Txt : ∀ a, a < 6 → ∀ b, b < 6 → a ≠ b → (zF_Txt a).2.1 ≠ (zF_Txt b).2.1 := by decide +kernel
theorem zk_Txt : ∀ k, k < 6 → parseFieldDescriptor (zF_Txt k).2.2.1 = some (zt_Txt k) := by decide +kernel
theorem zi0_Txt : ∀ k, k < 6 → u_lay "SameTuesday$Text" zF_Txt k ∈ zb_tb := fun k hk => match k, hk with
  | 0, _ => zb_mem 276 rfl rfl
  | 1, _ => zb_mem 278 rfl rfl
  | 2, _ => zb_mem 280 rfl rfl
  | 3, _ => zb_mem 282 rfl rfl
  | 4, _ => zb_mem 284 rfl rfl
  | 5, _ => zb_mem 286 rfl rfl
  | k + 6, hk => absurd hk (by omega)
theorem zi_Txt : ∀ w ∈ u_ws "SameTuesday$Text" zF_Txt 6, w ∈ zb_tb := fun w hw => by
  obtain ⟨k, hk, rfl⟩ := List.mem_map.mp hw
  exact zi0_Txt k (List.mem_range.mp hk)
def zF_Twn : u_T := fun k => match k with
  | 0 => ("SameTuesday$Town", "happenings", "[LSameTuesday$Happening;", true)
  | 1 => ("SameTuesday$Town", "deeds", "[LSameTuesday$Deed;", true)
  | 2 => ("SameTuesday$Town", "happeningCount", "I", false)
  | 3 => ("SameTuesday$Town", "deedCount", "I", false)
  | 4 => ("SameTuesday$Town", "minuteCount", "I", false)
  | _ => ("SameTuesday$Town", "eventful", "J", false)
def zt_Twn : Nat → FieldType := fun k => match k with
  | 0 => .array (.object "SameTuesday$Happening")
  | 1 => .array (.object "SameTuesday$Deed")
  | 2 => .int
  | 3 => .int
  | 4 => .int
  | _ => .long
theorem zn_Twn : ∀ a, a < 6 → ∀ b, b < 6 → a ≠ b → (zF_Twn a).2.1 ≠ (zF_Twn b).2.1 := by decide +kernel
theorem zk_Twn : ∀ k, k < 6 → parseFieldDescriptor (zF_Twn k).2.2.1 = some (zt_Twn k) := by decide +kernel
theorem zi0_Twn : ∀ k, k < 6 → u_lay "SameTuesday$Town" zF_Twn k ∈ zb_tb := fun k hk => match k, hk with
  | 0, _ => zb_mem 109 rfl rfl
  | 1, _ => zb_mem 111 rfl rfl
  | 2, _ => zb_mem 113 rfl rfl
  | 3, _ => zb_mem 115 rfl rfl
  | 4, _ => zb_mem 117 rfl rfl
  | 5, _ => zb_mem 119 rfl rfl
  | k + 6, hk => absurd hk (by omega)
theorem zi_Twn : ∀ w ∈ u_ws "SameTuesday$Town" zF_Twn 6, w ∈ zb_tb := fun w hw => by
  obtain ⟨k, hk, rfl⟩ := List.mem_map.mp hw
  exact zi0_Twn k (List.mem_range.mp hk)
def zF_Trc : u_T := fun k => match k with
  | _ => ("SameTuesday$Trace", "left", "I", false)
def zt_Trc : Nat → FieldType := fun k => match k with
  | _ => .int
theorem zn_Trc : ∀ a, a < 1 → ∀ b, b < 1 → a ≠ b → (zF_Trc a).2.1 ≠ (zF_Trc b).2.1 := by decide +kernel
theorem zk_Trc : ∀ k, k < 1 → parseFieldDescriptor (zF_Trc k).2.2.1 = some (zt_Trc k) := by decide +kernel
theorem zi0_Trc : ∀ k, k < 1 → u_lay "SameTuesday$Trace" zF_Trc k ∈ zb_tb := fun k hk => match k, hk with
  | 0, _ => zb_mem 208 rfl rfl
  | k + 1, hk => absurd hk (by omega)
theorem zi_Trc : ∀ w ∈ u_ws "SameTuesday$Trace" zF_Trc 1, w ∈ zb_tb := fun w hw => by
  obtain ⟨k, hk, rfl⟩ := List.mem_map.mp hw
  exact zi0_Trc k (List.mem_range.mp hk)
def zF_Tue : u_T := fun k => match k with
  | 0 => ("SameTuesday", "sheets", "[LSameTuesday$Sheet;", true)
  | 1 => ("SameTuesday", "town", "LSameTuesday$Town;", true)
  | 2 => ("SameTuesday", "life", "LSameTuesday$Life;", true)
  | 3 => ("SameTuesday", "reach", "LSameTuesday$Reach;", true)
  | 4 => ("SameTuesday", "law", "LSameTuesday$Law;", true)
  | 5 => ("SameTuesday", "traces", "LSameTuesday$Trace;", true)
  | _ => ("SameTuesday", "lastFault", "I", false)
def zt_Tue : Nat → FieldType := fun k => match k with
  | 0 => .array (.object "SameTuesday$Sheet")
  | 1 => .object "SameTuesday$Town"
  | 2 => .object "SameTuesday$Life"
  | 3 => .object "SameTuesday$Reach"
  | 4 => .object "SameTuesday$Law"
  | 5 => .object "SameTuesday$Trace"
  | _ => .int
theorem zn_Tue : ∀ a, a < 7 → ∀ b, b < 7 → a ≠ b → (zF_Tue a).2.1 ≠ (zF_Tue b).2.1 := by decide +kernel
theorem zk_Tue : ∀ k, k < 7 → parseFieldDescriptor (zF_Tue k).2.2.1 = some (zt_Tue k) := by decide +kernel
theorem zi0_Tue : ∀ k, k < 7 → u_lay "SameTuesday" zF_Tue k ∈ zb_tb := fun k hk => match k, hk with
  | 0, _ => zb_mem 218 rfl rfl
  | 1, _ => zb_mem 220 rfl rfl
  | 2, _ => zb_mem 222 rfl rfl
  | 3, _ => zb_mem 224 rfl rfl
  | 4, _ => zb_mem 226 rfl rfl
  | 5, _ => zb_mem 228 rfl rfl
  | 6, _ => zb_mem 230 rfl rfl
  | k + 7, hk => absurd hk (by omega)
theorem zi_Tue : ∀ w ∈ u_ws "SameTuesday" zF_Tue 7, w ∈ zb_tb := fun w hw => by
  obtain ⟨k, hk, rfl⟩ := List.mem_map.mp hw
  exact zi0_Tue k (List.mem_range.mp hk)
def zF_Mod : u_T := fun k => match k with
  | 0 => ("SameTuesdayModel", "fault", "I", false)
  | 1 => ("SameTuesdayModel", "trace", "I", false)
  | 2 => ("SameTuesdayModel", "sorts", "[I", true)
  | 3 => ("SameTuesdayModel", "sheetLong", "[I", true)
  | 4 => ("SameTuesdayModel", "cells", "[I", true)
  | 5 => ("SameTuesdayModel", "happenings", "I", false)
  | 6 => ("SameTuesdayModel", "deeds", "I", false)
  | 7 => ("SameTuesdayModel", "minutes", "I", false)
  | 8 => ("SameTuesdayModel", "kind", "[I", true)
  | 9 => ("SameTuesdayModel", "minuteOf", "[I", true)
  | 10 => ("SameTuesdayModel", "needOf", "[I", true)
  | 11 => ("SameTuesdayModel", "factOf", "[I", true)
  | 12 => ("SameTuesdayModel", "deedNeed", "[I", true)
  | 13 => ("SameTuesdayModel", "deedFact", "[I", true)
  | 14 => ("SameTuesdayModel", "deedUndoes", "[I", true)
  | 15 => ("SameTuesdayModel", "deedLong", "[I", true)
  | 16 => ("SameTuesdayModel", "at", "I", false)
  | 17 => ("SameTuesdayModel", "readMany", "I", false)
  | 18 => ("SameTuesdayModel", "readDeeds", "I", false)
  | 19 => ("SameTuesdayModel", "read", "[I", true)
  | 20 => ("SameTuesdayModel", "readDeed", "[I", true)
  | 21 => ("SameTuesdayModel", "pairs", "I", false)
  | 22 => ("SameTuesdayModel", "pairMinute", "[I", true)
  | 23 => ("SameTuesdayModel", "pairDeed", "[I", true)
  | 24 => ("SameTuesdayModel", "isWrong", "[Z", true)
  | 25 => ("SameTuesdayModel", "otherDeed", "I", false)
  | 26 => ("SameTuesdayModel", "otherMinute", "I", false)
  | 27 => ("SameTuesdayModel", "hasBegun", "Z", false)
  | 28 => ("SameTuesdayModel", "idle", "[Z", true)
  | 29 => ("SameTuesdayModel", "busyWith", "[Z", true)
  | 30 => ("SameTuesdayModel", "then", "[Z", true)
  | 31 => ("SameTuesdayModel", "canBe", "[Z", true)
  | 32 => ("SameTuesdayModel", "days", "I", false)
  | _ => ("SameTuesdayModel", "lived", "[I", true)
def zt_Mod : Nat → FieldType := fun k => match k with
  | 0 => .int
  | 1 => .int
  | 2 => .array .int
  | 3 => .array .int
  | 4 => .array .int
  | 5 => .int
  | 6 => .int
  | 7 => .int
  | 8 => .array .int
  | 9 => .array .int
  | 10 => .array .int
  | 11 => .array .int
  | 12 => .array .int
  | 13 => .array .int
  | 14 => .array .int
  | 15 => .array .int
  | 16 => .int
  | 17 => .int
  | 18 => .int
  | 19 => .array .int
  | 20 => .array .int
  | 21 => .int
  | 22 => .array .int
  | 23 => .array .int
  | 24 => .array .boolean
  | 25 => .int
  | 26 => .int
  | 27 => .boolean
  | 28 => .array .boolean
  | 29 => .array .boolean
  | 30 => .array .boolean
  | 31 => .array .boolean
  | 32 => .int
  | _ => .array .int
theorem zn_Mod : ∀ a, a < 34 → ∀ b, b < 34 → a ≠ b → (zF_Mod a).2.1 ≠ (zF_Mod b).2.1 := by decide +kernel
theorem zk_Mod : ∀ k, k < 34 → parseFieldDescriptor (zF_Mod k).2.2.1 = some (zt_Mod k) := by decide +kernel
set_option maxRecDepth 20000 in
theorem zi0_Mod : ∀ k, k < 34 → u_lay "SameTuesdayModel" zF_Mod k ∈ zb_tb := fun k hk => match k, hk with
  | 0, _ => zb_mem 939 rfl rfl
  | 1, _ => zb_mem 941 rfl rfl
  | 2, _ => zb_mem 943 rfl rfl
  | 3, _ => zb_mem 945 rfl rfl
  | 4, _ => zb_mem 947 rfl rfl
  | 5, _ => zb_mem 949 rfl rfl
  | 6, _ => zb_mem 951 rfl rfl
  | 7, _ => zb_mem 953 rfl rfl
  | 8, _ => zb_mem 955 rfl rfl
  | 9, _ => zb_mem 957 rfl rfl
  | 10, _ => zb_mem 959 rfl rfl
  | 11, _ => zb_mem 961 rfl rfl
  | 12, _ => zb_mem 963 rfl rfl
  | 13, _ => zb_mem 965 rfl rfl
  | 14, _ => zb_mem 967 rfl rfl
  | 15, _ => zb_mem 969 rfl rfl
  | 16, _ => zb_mem 971 rfl rfl
  | 17, _ => zb_mem 973 rfl rfl
  | 18, _ => zb_mem 975 rfl rfl
  | 19, _ => zb_mem 977 rfl rfl
  | 20, _ => zb_mem 979 rfl rfl
  | 21, _ => zb_mem 981 rfl rfl
  | 22, _ => zb_mem 983 rfl rfl
  | 23, _ => zb_mem 985 rfl rfl
  | 24, _ => zb_mem 987 rfl rfl
  | 25, _ => zb_mem 989 rfl rfl
  | 26, _ => zb_mem 991 rfl rfl
  | 27, _ => zb_mem 993 rfl rfl
  | 28, _ => zb_mem 995 rfl rfl
  | 29, _ => zb_mem 997 rfl rfl
  | 30, _ => zb_mem 999 rfl rfl
  | 31, _ => zb_mem 1001 rfl rfl
  | 32, _ => zb_mem 1003 rfl rfl
  | 33, _ => zb_mem 1005 rfl rfl
  | k + 34, hk => absurd hk (by omega)
theorem zi_Mod : ∀ w ∈ u_ws "SameTuesdayModel" zF_Mod 34, w ∈ zb_tb := fun w hw => by
  obtain ⟨k, hk, rfl⟩ := List.mem_map.mp hw
  exact zi0_Mod k (List.mem_range.mp hk)
def zb_cl : List vw_C := [("SameTuesday$Caprice", zF_Cap, 6), ("SameTuesday$Deed", zF_Deed, 5), ("SameTuesday$Happening", zF_Hap, 6), ("SameTuesday$Law", zF_Law, 2), ("SameTuesday$Life", zF_Life, 12), ("SameTuesday$Mishap", zF_Mis, 6), ("SameTuesday$Reach", zF_Rch, 5), ("SameTuesday$Sheet", zF_Sht, 3), ("SameTuesday$Text", zF_Txt, 6), ("SameTuesday$Town", zF_Twn, 6), ("SameTuesday$Trace", zF_Trc, 1), ("SameTuesday", zF_Tue, 7), ("SameTuesdayModel", zF_Mod, 34)]
def zb_nest : List (String × Nat × MethodName × String) := [("SameTuesday$Happening", 22, ⟨"SameTuesday", "worldWith", "(I)J"⟩, "SameTuesday"), ("SameTuesday$Deed", 24, ⟨"SameTuesday", "worldWith", "(I)J"⟩, "SameTuesday"), ("SameTuesday$Life", 59, ⟨"SameTuesday", "isMinute", "(I)Z"⟩, "SameTuesday"), ("SameTuesday$Reach", 39, ⟨"SameTuesday", "worldWithAll", "(I)J"⟩, "SameTuesday"), ("SameTuesday$Law", 27, ⟨"SameTuesday", "worldWithin", "(I)J"⟩, "SameTuesday"), ("SameTuesday$Law", 35, ⟨"SameTuesday", "hasState", "(JI)Z"⟩, "SameTuesday"), ("SameTuesday$Law", 45, ⟨"SameTuesday", "lesserPart", "(JI)I"⟩, "SameTuesday")]
def zb_ao : List String := ["SameTuesday$Sheet", "SameTuesday$Happening", "SameTuesday$Deed"]
def zb_ca : List (String × String) := [("SameTuesday$Mishap", "SameTuesday$Happening"), ("SameTuesday$Caprice", "SameTuesday$Happening")]
def zb_so : Nat → Int64 := fun j => match j with
  | 0 => 0xAAAAAAAAAAAAAAAA
  | 1 => 0xCCCCCCCCCCCCCCCC
  | 2 => 0xF0F0F0F0F0F0F0F0
  | 3 => 0xFF00FF00FF00FF00
  | 4 => 0xFFFF0000FFFF0000
  | _ => 0xFFFFFFFF00000000
/-! the walk of a method over a world: ZG what is fixed for all methods (launch, tables, array classes, first own address, the static row), ZY what is fixed for one -/
abbrev ZG : Type := Launch × va_G × (Nat → ClassId) × Nat × Nat
abbrev ZY : Type := Program × Env × Room × State × MethodId × Array Value × List Frame × Method × Code × (State → Prop) × Nat
def zc (G : ZG) : Nat → ClassId := G.2.2.1
def zso (G : ZG) : Nat := G.2.2.2.2
def zb_A (B : Nat) : Nat → Prop := fun q => B ≤ q
def zb_tys (cA : Nat → ClassId) : List (ClassId × FieldType) := [(cA 0, .int), (cA 1, .boolean), (cA 2, .long), (cA 3, .object "SameTuesday$Sheet"), (cA 4, .object "SameTuesday$Happening"), (cA 5, .object "SameTuesday$Deed")]
def zb_S (B t : Nat) (U : State) (H : Heap) : Prop := va_Z "SameTuesday" "SO" "[J" (.ref t) (zb_A B) U H ∧ va_T .long t 6 (fun j => .long (zb_so j)) (zb_A B) U H
def zb_amb (cA : Nat → ClassId) (D : va_G) (B t : Nat) (U : State) : Prop := va_K D zb_cl (zb_tys cA) U ∧ zb_S B t U U.heap ∧ (∀ q ∈ zb_nest, va_Nw (.methodLinkNest q.1 q.2.1 q.2.2.1 q.2.2.2) U) ∧ (∀ C ∈ zb_ao, va_AO C U) ∧ (∀ q ∈ zb_ca, va_Nw (.castable q.1 q.2) U)
def ZV : ZG → ZY → Nat → Nat → Nat → List (Nat × Value) → List Value → va_W → Prop
  | (l, D, _, B, _), (p, e, R, s, m, args, below, meth, c, Q, nL), kc, ks, pc, lv, st, w =>
    ∀ (H : Heap) (locs : List Loc) (ls : Array Slot), va_P D zb_cl w H → va_D (zb_A B) w → va_S (zb_A B) s.heap H locs → lv_has ls nL lv → W p l e R s m args below meth c H locs kc ks Q (F0 m pc ls st)
def ZC : ZG → ZY → ByteArray → String → String → Option FieldType → Room → Nat → Prop
  | (_, D, cA, B, t), (p, _, R, s, m, args, _, meth, c, _, nL), cc, own, nm, ret, rm, nl =>
    p.tables.exec = Jvm.exec ∧ c.code = cc ∧ c.maxLocals = nl ∧ nL = nl ∧ s.vm.findClass own = some m.cls ∧ (∀ w ∈ zb_tb, w.before args s = true) ∧ va_K D zb_cl (zb_tys cA) s ∧ meth.locks = false ∧ meth.sig.returnType = ret ∧ meth.name = nm ∧ R = rm ∧ B ≤ s.heap.size ∧ zb_S B t s s.heap ∧ (∀ q ∈ zb_nest, va_Nw (.methodLinkNest q.1 q.2.1 q.2.2.1 q.2.2.2) s) ∧ (∀ C ∈ zb_ao, va_AO C s) ∧ (∀ q ∈ zb_ca, va_Nw (.castable q.1 q.2) s)
def ZQc (D : va_G) (B : Nat) (post : Option Value → va_W → Prop) : Array Value → State → Outcome → State → Prop := fun _ st o t => (∃ (v : Option Value) (w : va_W), o = .returned v ∧ post v w ∧ va_P D zb_cl w t.heap ∧ va_D (zb_A B) w) ∧ va_F (zb_A B) st t
def ZQ : ZG → ZY → (Option Value → va_W → Prop) → Nat → Nat → Prop
  | (_, D, _, B, _), (_, _, _, s, _, args, below, _, _, Q, _), post, mc, ms => Q = MQ below (ZQc D B post) args s mc ms (zb_A B)
def ZE (G : ZG) (w : va_W) (U : State) : Prop := G.2.2.2.1 ≤ U.heap.size ∧ zb_amb G.2.2.1 G.2.1 G.2.2.2.1 G.2.2.2.2 U ∧ va_P G.2.1 zb_cl w U.heap ∧ va_D (zb_A G.2.2.2.1) w
def ZM (G : ZG) (y : MethodName) (bytes : ByteArray) (maxL : Nat) (ret : Option FieldType) (rm : Room) (av : List Value) (w : va_W) (post : Option Value → va_W → Prop) : Prop :=
  Met G.1 y (Cond.code y bytes maxL ret :: zb_tb) rm (va_Pc av (ZE G w)) (ZQc G.2.1 G.2.2.2.1 post) rm.cells rm.slots (zb_A G.2.2.2.1)
/-! what is decoded -/
def zd (cc : ByteArray) (pc : Nat) (i : Instr) (len pc1 : Nat) : Prop := decode cc pc = .ok (i, len) ∧ pc + len = pc1
def zd_l (f : Fin 4 → Instr) (g : Nat → Instr) (cc : ByteArray) (pc i pc1 : Nat) : Prop := (∃ k : Fin 4, (k : Nat) = i ∧ decode cc pc = .ok (f k, 1) ∧ pc + 1 = pc1) ∨ (decode cc pc = .ok (g i, 2) ∧ pc + 2 = pc1)
def zd_b (cc : ByteArray) (pc : Nat) (f : Int → Instr) (pc1 tg : Nat) : Prop := ∃ off : Int, decode cc pc = .ok (f off, 3) ∧ (pc : Int) + off = (tg : Int) ∧ pc + 3 = pc1
def zd_i (cc : ByteArray) (pc i : Nat) (n : Int) (v : Int32) (pc1 : Nat) : Prop := decode cc pc = .ok (.iinc i n, 3) ∧ Int32.ofInt n = v ∧ pc + 3 = pc1
def zd_k (cc : ByteArray) (own : String) (pc : Nat) (v : Int32) (pc1 : Nat) : Prop := (∃ n : Int, decode cc pc = .ok (.iconst n, 1) ∧ Int32.ofInt n = v ∧ pc + 1 = pc1) ∨ (∃ n : Int, decode cc pc = .ok (.bipush n, 2) ∧ (Int8.ofInt n).toInt32 = v ∧ pc + 2 = pc1) ∨ (∃ n : Int, decode cc pc = .ok (.sipush n, 3) ∧ (Int16.ofInt n).toInt32 = v ∧ pc + 3 = pc1) ∨ (∃ ix : Nat, decode cc pc = .ok (.ldc_w ix, 3) ∧ Cond.constant own ix v ∈ zb_tb ∧ pc + 3 = pc1)
def zd_kl (cc : ByteArray) (own : String) (pc : Nat) (v : Int64) (pc1 : Nat) : Prop := (∃ n : Fin 2, decode cc pc = .ok (.lconst n, 1) ∧ Int64.ofNat (n : Nat) = v ∧ pc + 1 = pc1) ∨ (∃ ix : Nat, decode cc pc = .ok (.ldc2_w ix, 3) ∧ Cond.constantLong own ix v ∈ zb_tb ∧ pc + 3 = pc1)
/-! the locals -/
def zg : List (Nat × Value) → Nat → Option Value
  | [], _ => none
  | q :: l, i => match Nat.beq q.1 i with
    | true => some q.2
    | false => zg l i
def zs1 (i : Nat) (v : Value) (lv : List (Nat × Value)) : List (Nat × Value) := (i, v) :: lv.filter (fun q => !(q.1 == i) && !(q.1 + 1 == i && q.2.category == 2))
def zs2 (i : Nat) (v : Value) (lv : List (Nat × Value)) : List (Nat × Value) := (i, v) :: lv.filter (fun q => !(q.1 == i) && (!(q.1 == i + 1) && !(q.1 + 1 == i && q.2.category == 2)))
theorem zg_mem : ∀ {lv : List (Nat × Value)} {i : Nat} {v : Value}, zg lv i = some v → (i, v) ∈ lv
  | [], i, v, h => by cases h
  | q :: l, i, v, h => by
    unfold zg at h
    cases hb : Nat.beq q.1 i with
    | true =>
      rw [hb] at h
      have e := Nat.eq_of_beq_eq_true hb
      obtain ⟨a, b⟩ := q
      cases h
      cases e
      exact List.mem_cons_self
    | false =>
      rw [hb] at h
      exact List.mem_cons_of_mem _ (zg_mem h)
theorem zg_at {ls : Array Slot} {nL : Nat} {lv : List (Nat × Value)} {i : Nat} {v : Value} (hl : lv_has ls nL lv) (h : zg lv i = some v) : ls[i]? = some (.val v) := hl.2.2 (i, v) (zg_mem h)
def zpick (lv : List (Nat × Value)) (is : List Nat) : List (Nat × Value) := is.filterMap (fun i => (zg lv i).map (fun v => (i, v)))
theorem zpick_sub {lv : List (Nat × Value)} {is : List Nat} : ∀ q ∈ zpick lv is, q ∈ lv := fun q hq => by
  obtain ⟨i, -, hi⟩ := List.mem_filterMap.mp hq
  cases hz : zg lv i with
  | none => rw [hz] at hi; cases hi
  | some v => rw [hz] at hi; cases hi; exact zg_mem hz
theorem zx_lv {G : ZG} {Y : ZY} {kc ks pc : Nat} {lv lv1 : List (Nat × Value)} {st : List Value} {w : va_W} (is : List Nat) (h : zpick lv is = lv1) (kk : ZV G Y kc ks pc lv1 st w) : ZV G Y kc ks pc lv st w := by
  obtain ⟨l, D, cA, B, t⟩ := G
  obtain ⟨p, e, R, s, m, args, below, meth, c, Q, nL⟩ := Y
  subst h
  intro H locs ls hP hD hS hl
  exact kk H locs ls hP hD hS ⟨hl.1, hl.2.1, fun q hq => hl.2.2 q (zpick_sub q hq)⟩
theorem zx_eq {G : ZG} {Y : ZY} {kc ks pc : Nat} {lv lv1 : List (Nat × Value)} {st st1 : List Value} {w w1 : va_W} (h1 : lv = lv1) (h2 : st = st1) (h3 : w = w1) (kk : ZV G Y kc ks pc lv1 st1 w1) : ZV G Y kc ks pc lv st w := by
  subst h1; subst h2; subst h3; exact kk
theorem zx_widen {G : ZG} {Y : ZY} {kc ks kc1 ks1 pc : Nat} {lv : List (Nat × Value)} {st : List Value} {w : va_W} (h1 : kc ≤ kc1) (h2 : ks ≤ ks1) (kk : ZV G Y kc1 ks1 pc lv st w) : ZV G Y kc ks pc lv st w := by
  obtain ⟨l, D, cA, B, t⟩ := G
  obtain ⟨p, e, R, s, m, args, below, meth, c, Q, nL⟩ := Y
  intro H locs ls hP hD hS hl
  exact W.widen h1 h2 (kk H locs ls hP hD hS hl)
/-- the world in another order, or less of it -/
theorem zx_world {G : ZG} {Y : ZY} {kc ks pc : Nat} {lv : List (Nat × Value)} {st : List Value} {w w1 : va_W} (hP1 : ∀ (k : Nat) (q : Nat × va_E), w1[k]? = some q → ∃ j : Nat, w[j]? = some q) (hD1 : ∀ A : Nat → Prop, va_D A w → va_D A w1) (kk : ZV G Y kc ks pc lv st w1) : ZV G Y kc ks pc lv st w := by
  obtain ⟨l, D, cA, B, t⟩ := G
  obtain ⟨p, e, R, s, m, args, below, meth, c, Q, nL⟩ := Y
  intro H locs ls hP hD hS hl
  exact kk H locs ls (fun k q hk => by obtain ⟨j, hj⟩ := hP1 k q hk; exact hP j q hj) (hD1 _ hD) hS hl
/-! the constant pool's fields -/
def zb_FL (own : String) (idx ci k : Nat) : Prop := ∃ (Cn : String) (T : u_T) (N : Nat) (ref : String), zb_cl[ci]? = some (Cn, T, N) ∧ k < N ∧ (∀ w ∈ u_ws Cn T N, w ∈ zb_tb) ∧ Cond.fieldLink own idx ref (T k).2.1 (T k).2.2.1 ∈ zb_tb ∧ (ref = (T k).1 ∨ Cond.sameField ref (T k).1 (T k).2.1 (T k).2.2.1 ∈ zb_tb)
def zb_PL (own : String) (idx ci k : Nat) (ty : FieldType) : Prop := ∃ (Cn : String) (T : u_T) (N : Nat) (ref : String) (ty0 : Nat → FieldType), zb_cl[ci]? = some (Cn, T, N) ∧ k < N ∧ (∀ w ∈ u_ws Cn T N, w ∈ zb_tb) ∧ Cond.fieldLink own idx ref (T k).2.1 (T k).2.2.1 ∈ zb_tb ∧ (ref = (T k).1 ∨ Cond.sameField ref (T k).1 (T k).2.1 (T k).2.2.1 ∈ zb_tb) ∧ (∀ k, k < N → parseFieldDescriptor (T k).2.2.1 = some (ty0 k)) ∧ (∀ a, a < N → ∀ b, b < N → a ≠ b → (T a).2.1 ≠ (T b).2.1) ∧ (T k).2.2.2 = false ∧ parseFieldDescriptor (T k).2.2.1 = some ty
def zb_PF (own : String) (idx ci k : Nat) (ty : FieldType) : Prop := ∃ (Cn : String) (T : u_T) (N : Nat) (ref : String) (ty0 : Nat → FieldType), zb_cl[ci]? = some (Cn, T, N) ∧ k < N ∧ (∀ w ∈ u_ws Cn T N, w ∈ zb_tb) ∧ Cond.fieldLink own idx ref (T k).2.1 (T k).2.2.1 ∈ zb_tb ∧ (ref = (T k).1 ∨ Cond.sameField ref (T k).1 (T k).2.1 (T k).2.2.1 ∈ zb_tb) ∧ (∀ k, k < N → parseFieldDescriptor (T k).2.2.1 = some (ty0 k)) ∧ (∀ a, a < N → ∀ b, b < N → a ≠ b → (T a).2.1 ≠ (T b).2.1) ∧ (T k).2.2.2 = true ∧ parseFieldDescriptor (T k).2.2.1 = some ty ∧ (T k).1 = own
def zb_fit (ty : FieldType) (v : Value) : Prop := narrow ty v = v ∧ fits ty v = true

section ZRows
variable {G : ZG} {Y : ZY} {cc : ByteArray} {own nm : String} {ret : Option FieldType} {rm : Room} {nl : Nat} {kc ks pc pc1 : Nat} {lv : List (Nat × Value)} {st : List Value} {w : va_W}
theorem zx_iadd (C : ZC G Y cc own nm ret rm nl) {x : Int32} {y : Int32} (hd : zd cc pc .iadd 1 pc1) (kk : ZV G Y kc ks pc1 lv (.int (x + y) :: st) w) : ZV G Y kc ks pc lv (.int y :: .int x :: st) w := by
  obtain ⟨l, D, cA, B, t⟩ := G
  obtain ⟨p, e, R, s, m, args, below, meth, c, Q, nL⟩ := Y
  obtain ⟨hx, hb, hml, hnl, hown, hts, hK, hlk, hr, hnm, hR, hB, hZ, hN, hO, hCa⟩ := C
  obtain ⟨hd, rfl⟩ := hd
  intro H locs ls hP hD hS hl
  exact lv_iadd hx hb hd (kk H locs ls hP hD hS hl)
theorem zx_isub (C : ZC G Y cc own nm ret rm nl) {x : Int32} {y : Int32} (hd : zd cc pc .isub 1 pc1) (kk : ZV G Y kc ks pc1 lv (.int (x - y) :: st) w) : ZV G Y kc ks pc lv (.int y :: .int x :: st) w := by
  obtain ⟨l, D, cA, B, t⟩ := G
  obtain ⟨p, e, R, s, m, args, below, meth, c, Q, nL⟩ := Y
  obtain ⟨hx, hb, hml, hnl, hown, hts, hK, hlk, hr, hnm, hR, hB, hZ, hN, hO, hCa⟩ := C
  obtain ⟨hd, rfl⟩ := hd
  intro H locs ls hP hD hS hl
  exact lv_isub hx hb hd (kk H locs ls hP hD hS hl)
theorem zx_imul (C : ZC G Y cc own nm ret rm nl) {x : Int32} {y : Int32} (hd : zd cc pc .imul 1 pc1) (kk : ZV G Y kc ks pc1 lv (.int (x * y) :: st) w) : ZV G Y kc ks pc lv (.int y :: .int x :: st) w := by
  obtain ⟨l, D, cA, B, t⟩ := G
  obtain ⟨p, e, R, s, m, args, below, meth, c, Q, nL⟩ := Y
  obtain ⟨hx, hb, hml, hnl, hown, hts, hK, hlk, hr, hnm, hR, hB, hZ, hN, hO, hCa⟩ := C
  obtain ⟨hd, rfl⟩ := hd
  intro H locs ls hP hD hS hl
  exact lv_imul hx hb hd (kk H locs ls hP hD hS hl)
theorem zx_iand (C : ZC G Y cc own nm ret rm nl) {x : Int32} {y : Int32} (hd : zd cc pc .iand 1 pc1) (kk : ZV G Y kc ks pc1 lv (.int (x &&& y) :: st) w) : ZV G Y kc ks pc lv (.int y :: .int x :: st) w := by
  obtain ⟨l, D, cA, B, t⟩ := G
  obtain ⟨p, e, R, s, m, args, below, meth, c, Q, nL⟩ := Y
  obtain ⟨hx, hb, hml, hnl, hown, hts, hK, hlk, hr, hnm, hR, hB, hZ, hN, hO, hCa⟩ := C
  obtain ⟨hd, rfl⟩ := hd
  intro H locs ls hP hD hS hl
  exact lv_iand hx hb hd (kk H locs ls hP hD hS hl)
theorem zx_ior (C : ZC G Y cc own nm ret rm nl) {x : Int32} {y : Int32} (hd : zd cc pc .ior 1 pc1) (kk : ZV G Y kc ks pc1 lv (.int (x ||| y) :: st) w) : ZV G Y kc ks pc lv (.int y :: .int x :: st) w := by
  obtain ⟨l, D, cA, B, t⟩ := G
  obtain ⟨p, e, R, s, m, args, below, meth, c, Q, nL⟩ := Y
  obtain ⟨hx, hb, hml, hnl, hown, hts, hK, hlk, hr, hnm, hR, hB, hZ, hN, hO, hCa⟩ := C
  obtain ⟨hd, rfl⟩ := hd
  intro H locs ls hP hD hS hl
  exact lv_ior hx hb hd (kk H locs ls hP hD hS hl)
theorem zx_ixor (C : ZC G Y cc own nm ret rm nl) {x : Int32} {y : Int32} (hd : zd cc pc .ixor 1 pc1) (kk : ZV G Y kc ks pc1 lv (.int (x ^^^ y) :: st) w) : ZV G Y kc ks pc lv (.int y :: .int x :: st) w := by
  obtain ⟨l, D, cA, B, t⟩ := G
  obtain ⟨p, e, R, s, m, args, below, meth, c, Q, nL⟩ := Y
  obtain ⟨hx, hb, hml, hnl, hown, hts, hK, hlk, hr, hnm, hR, hB, hZ, hN, hO, hCa⟩ := C
  obtain ⟨hd, rfl⟩ := hd
  intro H locs ls hP hD hS hl
  exact lv_ixor hx hb hd (kk H locs ls hP hD hS hl)
theorem zx_ladd (C : ZC G Y cc own nm ret rm nl) {x : Int64} {y : Int64} (hd : zd cc pc .ladd 1 pc1) (kk : ZV G Y kc ks pc1 lv (.long (x + y) :: st) w) : ZV G Y kc ks pc lv (.long y :: .long x :: st) w := by
  obtain ⟨l, D, cA, B, t⟩ := G
  obtain ⟨p, e, R, s, m, args, below, meth, c, Q, nL⟩ := Y
  obtain ⟨hx, hb, hml, hnl, hown, hts, hK, hlk, hr, hnm, hR, hB, hZ, hN, hO, hCa⟩ := C
  obtain ⟨hd, rfl⟩ := hd
  intro H locs ls hP hD hS hl
  exact lv_ladd hx hb hd (kk H locs ls hP hD hS hl)
theorem zx_lsub (C : ZC G Y cc own nm ret rm nl) {x : Int64} {y : Int64} (hd : zd cc pc .lsub 1 pc1) (kk : ZV G Y kc ks pc1 lv (.long (x - y) :: st) w) : ZV G Y kc ks pc lv (.long y :: .long x :: st) w := by
  obtain ⟨l, D, cA, B, t⟩ := G
  obtain ⟨p, e, R, s, m, args, below, meth, c, Q, nL⟩ := Y
  obtain ⟨hx, hb, hml, hnl, hown, hts, hK, hlk, hr, hnm, hR, hB, hZ, hN, hO, hCa⟩ := C
  obtain ⟨hd, rfl⟩ := hd
  intro H locs ls hP hD hS hl
  exact lv_lsub hx hb hd (kk H locs ls hP hD hS hl)
theorem zx_lmul (C : ZC G Y cc own nm ret rm nl) {x : Int64} {y : Int64} (hd : zd cc pc .lmul 1 pc1) (kk : ZV G Y kc ks pc1 lv (.long (x * y) :: st) w) : ZV G Y kc ks pc lv (.long y :: .long x :: st) w := by
  obtain ⟨l, D, cA, B, t⟩ := G
  obtain ⟨p, e, R, s, m, args, below, meth, c, Q, nL⟩ := Y
  obtain ⟨hx, hb, hml, hnl, hown, hts, hK, hlk, hr, hnm, hR, hB, hZ, hN, hO, hCa⟩ := C
  obtain ⟨hd, rfl⟩ := hd
  intro H locs ls hP hD hS hl
  exact lv_lmul hx hb hd (kk H locs ls hP hD hS hl)
theorem zx_land (C : ZC G Y cc own nm ret rm nl) {x : Int64} {y : Int64} (hd : zd cc pc .land 1 pc1) (kk : ZV G Y kc ks pc1 lv (.long (x &&& y) :: st) w) : ZV G Y kc ks pc lv (.long y :: .long x :: st) w := by
  obtain ⟨l, D, cA, B, t⟩ := G
  obtain ⟨p, e, R, s, m, args, below, meth, c, Q, nL⟩ := Y
  obtain ⟨hx, hb, hml, hnl, hown, hts, hK, hlk, hr, hnm, hR, hB, hZ, hN, hO, hCa⟩ := C
  obtain ⟨hd, rfl⟩ := hd
  intro H locs ls hP hD hS hl
  exact lv_land hx hb hd (kk H locs ls hP hD hS hl)
theorem zx_lor (C : ZC G Y cc own nm ret rm nl) {x : Int64} {y : Int64} (hd : zd cc pc .lor 1 pc1) (kk : ZV G Y kc ks pc1 lv (.long (x ||| y) :: st) w) : ZV G Y kc ks pc lv (.long y :: .long x :: st) w := by
  obtain ⟨l, D, cA, B, t⟩ := G
  obtain ⟨p, e, R, s, m, args, below, meth, c, Q, nL⟩ := Y
  obtain ⟨hx, hb, hml, hnl, hown, hts, hK, hlk, hr, hnm, hR, hB, hZ, hN, hO, hCa⟩ := C
  obtain ⟨hd, rfl⟩ := hd
  intro H locs ls hP hD hS hl
  exact lv_lor hx hb hd (kk H locs ls hP hD hS hl)
theorem zx_lxor (C : ZC G Y cc own nm ret rm nl) {x : Int64} {y : Int64} (hd : zd cc pc .lxor 1 pc1) (kk : ZV G Y kc ks pc1 lv (.long (x ^^^ y) :: st) w) : ZV G Y kc ks pc lv (.long y :: .long x :: st) w := by
  obtain ⟨l, D, cA, B, t⟩ := G
  obtain ⟨p, e, R, s, m, args, below, meth, c, Q, nL⟩ := Y
  obtain ⟨hx, hb, hml, hnl, hown, hts, hK, hlk, hr, hnm, hR, hB, hZ, hN, hO, hCa⟩ := C
  obtain ⟨hd, rfl⟩ := hd
  intro H locs ls hP hD hS hl
  exact lv_lxor hx hb hd (kk H locs ls hP hD hS hl)
theorem zx_ishl (C : ZC G Y cc own nm ret rm nl) {x : Int32} {y : Int32} (hd : zd cc pc .ishl 1 pc1) (kk : ZV G Y kc ks pc1 lv (.int (x <<< (y &&& 31)) :: st) w) : ZV G Y kc ks pc lv (.int y :: .int x :: st) w := by
  obtain ⟨l, D, cA, B, t⟩ := G
  obtain ⟨p, e, R, s, m, args, below, meth, c, Q, nL⟩ := Y
  obtain ⟨hx, hb, hml, hnl, hown, hts, hK, hlk, hr, hnm, hR, hB, hZ, hN, hO, hCa⟩ := C
  obtain ⟨hd, rfl⟩ := hd
  intro H locs ls hP hD hS hl
  exact lv_ishl hx hb hd (kk H locs ls hP hD hS hl)
theorem zx_ishr (C : ZC G Y cc own nm ret rm nl) {x : Int32} {y : Int32} (hd : zd cc pc .ishr 1 pc1) (kk : ZV G Y kc ks pc1 lv (.int (x >>> (y &&& 31)) :: st) w) : ZV G Y kc ks pc lv (.int y :: .int x :: st) w := by
  obtain ⟨l, D, cA, B, t⟩ := G
  obtain ⟨p, e, R, s, m, args, below, meth, c, Q, nL⟩ := Y
  obtain ⟨hx, hb, hml, hnl, hown, hts, hK, hlk, hr, hnm, hR, hB, hZ, hN, hO, hCa⟩ := C
  obtain ⟨hd, rfl⟩ := hd
  intro H locs ls hP hD hS hl
  exact lv_ishr hx hb hd (kk H locs ls hP hD hS hl)
theorem zx_iushr (C : ZC G Y cc own nm ret rm nl) {x : Int32} {y : Int32} (hd : zd cc pc .iushr 1 pc1) (kk : ZV G Y kc ks pc1 lv (.int (x.toUInt32 >>> (y.toUInt32 &&& Int32.toUInt32 31)).toInt32 :: st) w) : ZV G Y kc ks pc lv (.int y :: .int x :: st) w := by
  obtain ⟨l, D, cA, B, t⟩ := G
  obtain ⟨p, e, R, s, m, args, below, meth, c, Q, nL⟩ := Y
  obtain ⟨hx, hb, hml, hnl, hown, hts, hK, hlk, hr, hnm, hR, hB, hZ, hN, hO, hCa⟩ := C
  obtain ⟨hd, rfl⟩ := hd
  intro H locs ls hP hD hS hl
  exact lv_iushr hx hb hd rfl (kk H locs ls hP hD hS hl)
theorem zx_lushr (C : ZC G Y cc own nm ret rm nl) {x : Int64} {y : Int32} (hd : zd cc pc .lushr 1 pc1) (kk : ZV G Y kc ks pc1 lv (.long (x.toUInt64 >>> (y.toInt64.toUInt64 &&& Int64.toUInt64 63)).toInt64 :: st) w) : ZV G Y kc ks pc lv (.int y :: .long x :: st) w := by
  obtain ⟨l, D, cA, B, t⟩ := G
  obtain ⟨p, e, R, s, m, args, below, meth, c, Q, nL⟩ := Y
  obtain ⟨hx, hb, hml, hnl, hown, hts, hK, hlk, hr, hnm, hR, hB, hZ, hN, hO, hCa⟩ := C
  obtain ⟨hd, rfl⟩ := hd
  intro H locs ls hP hD hS hl
  exact lv_lushr hx hb hd rfl (kk H locs ls hP hD hS hl)
theorem zx_lshl (C : ZC G Y cc own nm ret rm nl) {x : Int64} {y : Int32} (hd : zd cc pc .lshl 1 pc1) (kk : ZV G Y kc ks pc1 lv (.long (x <<< (y.toInt64 &&& 63)) :: st) w) : ZV G Y kc ks pc lv (.int y :: .long x :: st) w := by
  obtain ⟨l, D, cA, B, t⟩ := G
  obtain ⟨p, e, R, s, m, args, below, meth, c, Q, nL⟩ := Y
  obtain ⟨hx, hb, hml, hnl, hown, hts, hK, hlk, hr, hnm, hR, hB, hZ, hN, hO, hCa⟩ := C
  obtain ⟨hd, rfl⟩ := hd
  intro H locs ls hP hD hS hl
  exact lv_lshl hx hb hd rfl (kk H locs ls hP hD hS hl)
theorem zx_idiv (C : ZC G Y cc own nm ret rm nl) {x : Int32} {y : Int32} (hne : ¬ y = 0) (hd : zd cc pc .idiv 1 pc1) (kk : ZV G Y kc ks pc1 lv (.int (x / y) :: st) w) : ZV G Y kc ks pc lv (.int y :: .int x :: st) w := by
  obtain ⟨l, D, cA, B, t⟩ := G
  obtain ⟨p, e, R, s, m, args, below, meth, c, Q, nL⟩ := Y
  obtain ⟨hx, hb, hml, hnl, hown, hts, hK, hlk, hr, hnm, hR, hB, hZ, hN, hO, hCa⟩ := C
  obtain ⟨hd, rfl⟩ := hd
  intro H locs ls hP hD hS hl
  exact lv_idiv hx hb hd hne (kk H locs ls hP hD hS hl)
theorem zx_irem (C : ZC G Y cc own nm ret rm nl) {x : Int32} {y : Int32} (hne : ¬ y = 0) (hd : zd cc pc .irem 1 pc1) (kk : ZV G Y kc ks pc1 lv (.int (x - x / y * y) :: st) w) : ZV G Y kc ks pc lv (.int y :: .int x :: st) w := by
  obtain ⟨l, D, cA, B, t⟩ := G
  obtain ⟨p, e, R, s, m, args, below, meth, c, Q, nL⟩ := Y
  obtain ⟨hx, hb, hml, hnl, hown, hts, hK, hlk, hr, hnm, hR, hB, hZ, hN, hO, hCa⟩ := C
  obtain ⟨hd, rfl⟩ := hd
  intro H locs ls hP hD hS hl
  exact lv_irem hx hb hd hne (kk H locs ls hP hD hS hl)
theorem zx_ldiv (C : ZC G Y cc own nm ret rm nl) {x : Int64} {y : Int64} (hne : ¬ y = 0) (hd : zd cc pc .ldiv 1 pc1) (kk : ZV G Y kc ks pc1 lv (.long (x / y) :: st) w) : ZV G Y kc ks pc lv (.long y :: .long x :: st) w := by
  obtain ⟨l, D, cA, B, t⟩ := G
  obtain ⟨p, e, R, s, m, args, below, meth, c, Q, nL⟩ := Y
  obtain ⟨hx, hb, hml, hnl, hown, hts, hK, hlk, hr, hnm, hR, hB, hZ, hN, hO, hCa⟩ := C
  obtain ⟨hd, rfl⟩ := hd
  intro H locs ls hP hD hS hl
  exact lv_ldiv hx hb hd hne (kk H locs ls hP hD hS hl)
theorem zx_lrem (C : ZC G Y cc own nm ret rm nl) {x : Int64} {y : Int64} (hne : ¬ y = 0) (hd : zd cc pc .lrem 1 pc1) (kk : ZV G Y kc ks pc1 lv (.long (x - x / y * y) :: st) w) : ZV G Y kc ks pc lv (.long y :: .long x :: st) w := by
  obtain ⟨l, D, cA, B, t⟩ := G
  obtain ⟨p, e, R, s, m, args, below, meth, c, Q, nL⟩ := Y
  obtain ⟨hx, hb, hml, hnl, hown, hts, hK, hlk, hr, hnm, hR, hB, hZ, hN, hO, hCa⟩ := C
  obtain ⟨hd, rfl⟩ := hd
  intro H locs ls hP hD hS hl
  exact lv_lrem hx hb hd hne (kk H locs ls hP hD hS hl)
theorem zx_i2l (C : ZC G Y cc own nm ret rm nl) {x : Int32} (hd : zd cc pc .i2l 1 pc1) (kk : ZV G Y kc ks pc1 lv (.long x.toInt64 :: st) w) : ZV G Y kc ks pc lv (.int x :: st) w := by
  obtain ⟨l, D, cA, B, t⟩ := G
  obtain ⟨p, e, R, s, m, args, below, meth, c, Q, nL⟩ := Y
  obtain ⟨hx, hb, hml, hnl, hown, hts, hK, hlk, hr, hnm, hR, hB, hZ, hN, hO, hCa⟩ := C
  obtain ⟨hd, rfl⟩ := hd
  intro H locs ls hP hD hS hl
  exact lv_i2l hx hb hd rfl (kk H locs ls hP hD hS hl)
theorem zx_l2i (C : ZC G Y cc own nm ret rm nl) {x : Int64} (hd : zd cc pc .l2i 1 pc1) (kk : ZV G Y kc ks pc1 lv (.int x.toInt32 :: st) w) : ZV G Y kc ks pc lv (.long x :: st) w := by
  obtain ⟨l, D, cA, B, t⟩ := G
  obtain ⟨p, e, R, s, m, args, below, meth, c, Q, nL⟩ := Y
  obtain ⟨hx, hb, hml, hnl, hown, hts, hK, hlk, hr, hnm, hR, hB, hZ, hN, hO, hCa⟩ := C
  obtain ⟨hd, rfl⟩ := hd
  intro H locs ls hP hD hS hl
  exact lv_l2i hx hb hd rfl (kk H locs ls hP hD hS hl)
theorem zx_i2b (C : ZC G Y cc own nm ret rm nl) {x : Int32} (hd : zd cc pc .i2b 1 pc1) (kk : ZV G Y kc ks pc1 lv (.int x.toInt8.toInt32 :: st) w) : ZV G Y kc ks pc lv (.int x :: st) w := by
  obtain ⟨l, D, cA, B, t⟩ := G
  obtain ⟨p, e, R, s, m, args, below, meth, c, Q, nL⟩ := Y
  obtain ⟨hx, hb, hml, hnl, hown, hts, hK, hlk, hr, hnm, hR, hB, hZ, hN, hO, hCa⟩ := C
  obtain ⟨hd, rfl⟩ := hd
  intro H locs ls hP hD hS hl
  exact lv_i2b hx hb hd rfl (kk H locs ls hP hD hS hl)
theorem zx_i2s (C : ZC G Y cc own nm ret rm nl) {x : Int32} (hd : zd cc pc .i2s 1 pc1) (kk : ZV G Y kc ks pc1 lv (.int x.toInt16.toInt32 :: st) w) : ZV G Y kc ks pc lv (.int x :: st) w := by
  obtain ⟨l, D, cA, B, t⟩ := G
  obtain ⟨p, e, R, s, m, args, below, meth, c, Q, nL⟩ := Y
  obtain ⟨hx, hb, hml, hnl, hown, hts, hK, hlk, hr, hnm, hR, hB, hZ, hN, hO, hCa⟩ := C
  obtain ⟨hd, rfl⟩ := hd
  intro H locs ls hP hD hS hl
  exact lv_i2s hx hb hd rfl (kk H locs ls hP hD hS hl)
theorem zx_lcmp (C : ZC G Y cc own nm ret rm nl) {x y : Int64} (hd : zd cc pc .lcmp 1 pc1) (kk : ZV G Y kc ks pc1 lv (.int (lg_cmp x y) :: st) w) : ZV G Y kc ks pc lv (.long y :: .long x :: st) w := by
  obtain ⟨l, D, cA, B, t⟩ := G
  obtain ⟨p, e, R, s, m, args, below, meth, c, Q, nL⟩ := Y
  obtain ⟨hx, hb, hml, hnl, hown, hts, hK, hlk, hr, hnm, hR, hB, hZ, hN, hO, hCa⟩ := C
  obtain ⟨hd, rfl⟩ := hd
  intro H locs ls hP hD hS hl
  exact W.lcmp hx hb hd (kk H locs ls hP hD hS hl)
theorem zx_dup (C : ZC G Y cc own nm ret rm nl) {v : Value} (hv : v.category = 1) (hd : zd cc pc .dup 1 pc1) (kk : ZV G Y kc ks pc1 lv (v :: v :: st) w) : ZV G Y kc ks pc lv (v :: st) w := by
  obtain ⟨l, D, cA, B, t⟩ := G
  obtain ⟨p, e, R, s, m, args, below, meth, c, Q, nL⟩ := Y
  obtain ⟨hx, hb, hml, hnl, hown, hts, hK, hlk, hr, hnm, hR, hB, hZ, hN, hO, hCa⟩ := C
  obtain ⟨hd, rfl⟩ := hd
  intro H locs ls hP hD hS hl
  exact lv_dup hx hb hd hv (kk H locs ls hP hD hS hl)
theorem zx_dup2 (C : ZC G Y cc own nm ret rm nl) {v u : Value} (hv : v.category = 1) (hu : u.category = 1) (hd : zd cc pc .dup2 1 pc1) (kk : ZV G Y kc ks pc1 lv (v :: u :: v :: u :: st) w) : ZV G Y kc ks pc lv (v :: u :: st) w := by
  obtain ⟨l, D, cA, B, t⟩ := G
  obtain ⟨p, e, R, s, m, args, below, meth, c, Q, nL⟩ := Y
  obtain ⟨hx, hb, hml, hnl, hown, hts, hK, hlk, hr, hnm, hR, hB, hZ, hN, hO, hCa⟩ := C
  obtain ⟨hd, rfl⟩ := hd
  intro H locs ls hP hD hS hl
  exact lv_dup2_11 hx hb hd hv hu (kk H locs ls hP hD hS hl)
theorem zx_pop (C : ZC G Y cc own nm ret rm nl) {v : Value} (hv : v.category = 1) (hd : zd cc pc .pop 1 pc1) (kk : ZV G Y kc ks pc1 lv st w) : ZV G Y kc ks pc lv (v :: st) w := by
  obtain ⟨l, D, cA, B, t⟩ := G
  obtain ⟨p, e, R, s, m, args, below, meth, c, Q, nL⟩ := Y
  obtain ⟨hx, hb, hml, hnl, hown, hts, hK, hlk, hr, hnm, hR, hB, hZ, hN, hO, hCa⟩ := C
  obtain ⟨hd, rfl⟩ := hd
  intro H locs ls hP hD hS hl
  exact lv_pop hx hb hd hv (kk H locs ls hP hD hS hl)
theorem zx_null (C : ZC G Y cc own nm ret rm nl)  (hd : zd cc pc .aconst_null 1 pc1) (kk : ZV G Y kc ks pc1 lv (.null :: st) w) : ZV G Y kc ks pc lv st w := by
  obtain ⟨l, D, cA, B, t⟩ := G
  obtain ⟨p, e, R, s, m, args, below, meth, c, Q, nL⟩ := Y
  obtain ⟨hx, hb, hml, hnl, hown, hts, hK, hlk, hr, hnm, hR, hB, hZ, hN, hO, hCa⟩ := C
  obtain ⟨hd, rfl⟩ := hd
  intro H locs ls hP hD hS hl
  exact lv_null hx hb hd (kk H locs ls hP hD hS hl)
theorem zx_iload (C : ZC G Y cc own nm ret rm nl) {i : Nat} {x : Int32} (hd : zd_l .iload_n .iload cc pc i pc1) (hg : zg lv i = some (.int x)) (kk : ZV G Y kc ks pc1 lv (.int x :: st) w) : ZV G Y kc ks pc lv st w := by
  obtain ⟨l, D, cA, B, t⟩ := G
  obtain ⟨p, e, R, s, m, args, below, meth, c, Q, nL⟩ := Y
  obtain ⟨hx, hb, hml, hnl, hown, hts, hK, hlk, hr, hnm, hR, hB, hZ, hN, hO, hCa⟩ := C
  rcases hd with ⟨k, hk, hd, rfl⟩ | ⟨hd, rfl⟩
  · intro H locs ls hP hD hS hl
    exact lv_iload_n hx hb hd hk (zg_at hl hg) (kk H locs ls hP hD hS hl)
  · intro H locs ls hP hD hS hl
    exact lv_iload hx hb hd (zg_at hl hg) (kk H locs ls hP hD hS hl)
theorem zx_lload (C : ZC G Y cc own nm ret rm nl) {i : Nat} {x : Int64} (hd : zd_l .lload_n .lload cc pc i pc1) (hg : zg lv i = some (.long x)) (kk : ZV G Y kc ks pc1 lv (.long x :: st) w) : ZV G Y kc ks pc lv st w := by
  obtain ⟨l, D, cA, B, t⟩ := G
  obtain ⟨p, e, R, s, m, args, below, meth, c, Q, nL⟩ := Y
  obtain ⟨hx, hb, hml, hnl, hown, hts, hK, hlk, hr, hnm, hR, hB, hZ, hN, hO, hCa⟩ := C
  rcases hd with ⟨k, hk, hd, rfl⟩ | ⟨hd, rfl⟩
  · intro H locs ls hP hD hS hl
    exact lv_lload_n hx hb hd hk (zg_at hl hg) (kk H locs ls hP hD hS hl)
  · intro H locs ls hP hD hS hl
    exact lv_lload hx hb hd (zg_at hl hg) (kk H locs ls hP hD hS hl)
theorem zx_aload (C : ZC G Y cc own nm ret rm nl) {i : Nat} {x : Nat} (hd : zd_l .aload_n .aload cc pc i pc1) (hg : zg lv i = some (.ref x)) (kk : ZV G Y kc ks pc1 lv (.ref x :: st) w) : ZV G Y kc ks pc lv st w := by
  obtain ⟨l, D, cA, B, t⟩ := G
  obtain ⟨p, e, R, s, m, args, below, meth, c, Q, nL⟩ := Y
  obtain ⟨hx, hb, hml, hnl, hown, hts, hK, hlk, hr, hnm, hR, hB, hZ, hN, hO, hCa⟩ := C
  rcases hd with ⟨k, hk, hd, rfl⟩ | ⟨hd, rfl⟩
  · intro H locs ls hP hD hS hl
    exact lv_aload_n hx hb hd hk (zg_at hl hg) (kk H locs ls hP hD hS hl)
  · intro H locs ls hP hD hS hl
    exact lv_aload hx hb hd (zg_at hl hg) (kk H locs ls hP hD hS hl)
theorem zx_aloadq (C : ZC G Y cc own nm ret rm nl) {i : Nat} {r : Option Nat} (hd : zd_l .aload_n .aload cc pc i pc1) (hg : zg lv i = some (va_rf r)) (kk : ZV G Y kc ks pc1 lv (va_rf r :: st) w) : ZV G Y kc ks pc lv st w := by
  obtain ⟨l, D, cA, B, t⟩ := G
  obtain ⟨p, e, R, s, m, args, below, meth, c, Q, nL⟩ := Y
  obtain ⟨hx, hb, hml, hnl, hown, hts, hK, hlk, hr, hnm, hR, hB, hZ, hN, hO, hCa⟩ := C
  cases r with
  | some x =>
    rcases hd with ⟨k, hk, hd, rfl⟩ | ⟨hd, rfl⟩
    · intro H locs ls hP hD hS hl
      exact lv_aload_n hx hb hd hk (zg_at hl hg) (kk H locs ls hP hD hS hl)
    · intro H locs ls hP hD hS hl
      exact lv_aload hx hb hd (zg_at hl hg) (kk H locs ls hP hD hS hl)
  | none =>
    rcases hd with ⟨k, hk, hd, rfl⟩ | ⟨hd, rfl⟩
    · intro H locs ls hP hD hS hl
      exact lv_aload_nN hx hb hd hk (zg_at hl hg) (kk H locs ls hP hD hS hl)
    · intro H locs ls hP hD hS hl
      exact lv_aloadN hx hb hd (zg_at hl hg) (kk H locs ls hP hD hS hl)
theorem zx_istore (C : ZC G Y cc own nm ret rm nl) {i : Nat} {x : Int32} {lv1 : List (Nat × Value)} (hd : zd_l .istore_n .istore cc pc i pc1) (hn : i < nl) (hs : zs1 i (.int x) lv = lv1) (kk : ZV G Y kc ks pc1 lv1 st w) : ZV G Y kc ks pc lv (.int x :: st) w := by
  obtain ⟨l, D, cA, B, t⟩ := G
  obtain ⟨p, e, R, s, m, args, below, meth, c, Q, nL⟩ := Y
  obtain ⟨hx, hb, hml, hnl, hown, hts, hK, hlk, hr, hnm, hR, hB, hZ, hN, hO, hCa⟩ := C
  subst hnl
  rcases hd with ⟨k, hk, hd, rfl⟩ | ⟨hd, rfl⟩
  · intro H locs ls hP hD hS hl
    exact lv_istore_n hx hb hd hk hl hn hs (fun ls2 hl2 => kk H locs ls2 hP hD hS hl2)
  · intro H locs ls hP hD hS hl
    exact lv_istore hx hb hd hl hn hs (fun ls2 hl2 => kk H locs ls2 hP hD hS hl2)
theorem zx_lstore (C : ZC G Y cc own nm ret rm nl) {i : Nat} {x : Int64} {lv1 : List (Nat × Value)} (hd : zd_l .lstore_n .lstore cc pc i pc1) (hn : i + 1 < nl) (hs : zs2 i (.long x) lv = lv1) (kk : ZV G Y kc ks pc1 lv1 st w) : ZV G Y kc ks pc lv (.long x :: st) w := by
  obtain ⟨l, D, cA, B, t⟩ := G
  obtain ⟨p, e, R, s, m, args, below, meth, c, Q, nL⟩ := Y
  obtain ⟨hx, hb, hml, hnl, hown, hts, hK, hlk, hr, hnm, hR, hB, hZ, hN, hO, hCa⟩ := C
  subst hnl
  rcases hd with ⟨k, hk, hd, rfl⟩ | ⟨hd, rfl⟩
  · intro H locs ls hP hD hS hl
    exact lv_lstore_n hx hb hd hk hl hn hs (fun ls2 hl2 => kk H locs ls2 hP hD hS hl2)
  · intro H locs ls hP hD hS hl
    exact lv_lstore hx hb hd hl hn hs (fun ls2 hl2 => kk H locs ls2 hP hD hS hl2)
theorem zx_astore (C : ZC G Y cc own nm ret rm nl) {i : Nat} {x : Nat} {lv1 : List (Nat × Value)} (hd : zd_l .astore_n .astore cc pc i pc1) (hn : i < nl) (hs : zs1 i (.ref x) lv = lv1) (kk : ZV G Y kc ks pc1 lv1 st w) : ZV G Y kc ks pc lv (.ref x :: st) w := by
  obtain ⟨l, D, cA, B, t⟩ := G
  obtain ⟨p, e, R, s, m, args, below, meth, c, Q, nL⟩ := Y
  obtain ⟨hx, hb, hml, hnl, hown, hts, hK, hlk, hr, hnm, hR, hB, hZ, hN, hO, hCa⟩ := C
  subst hnl
  rcases hd with ⟨k, hk, hd, rfl⟩ | ⟨hd, rfl⟩
  · intro H locs ls hP hD hS hl
    exact lv_astore_n hx hb hd hk hl hn hs (fun ls2 hl2 => kk H locs ls2 hP hD hS hl2)
  · intro H locs ls hP hD hS hl
    exact lv_astore hx hb hd hl hn hs (fun ls2 hl2 => kk H locs ls2 hP hD hS hl2)
theorem zx_astoreq (C : ZC G Y cc own nm ret rm nl) {i : Nat} {r : Option Nat} {lv1 : List (Nat × Value)} (hd : zd_l .astore_n .astore cc pc i pc1) (hn : i < nl) (hs : zs1 i (va_rf r) lv = lv1) (kk : ZV G Y kc ks pc1 lv1 st w) : ZV G Y kc ks pc lv (va_rf r :: st) w := by
  obtain ⟨l, D, cA, B, t⟩ := G
  obtain ⟨p, e, R, s, m, args, below, meth, c, Q, nL⟩ := Y
  obtain ⟨hx, hb, hml, hnl, hown, hts, hK, hlk, hr, hnm, hR, hB, hZ, hN, hO, hCa⟩ := C
  subst hnl
  cases r with
  | some x =>
    rcases hd with ⟨k, hk, hd, rfl⟩ | ⟨hd, rfl⟩
    · intro H locs ls hP hD hS hl
      exact lv_astore_n hx hb hd hk hl hn hs (fun ls2 hl2 => kk H locs ls2 hP hD hS hl2)
    · intro H locs ls hP hD hS hl
      exact lv_astore hx hb hd hl hn hs (fun ls2 hl2 => kk H locs ls2 hP hD hS hl2)
  | none =>
    rcases hd with ⟨k, hk, hd, rfl⟩ | ⟨hd, rfl⟩
    · intro H locs ls hP hD hS hl
      exact lv_astore_nN hx hb hd hk hl hn hs (fun ls2 hl2 => kk H locs ls2 hP hD hS hl2)
    · intro H locs ls hP hD hS hl
      exact lv_astoreN hx hb hd hl hn hs (fun ls2 hl2 => kk H locs ls2 hP hD hS hl2)
theorem zx_iinc (C : ZC G Y cc own nm ret rm nl) {i : Nat} {n : Int} {v x : Int32} {lv1 : List (Nat × Value)} (hd : zd_i cc pc i n v pc1) (hn : i < nl) (hg : zg lv i = some (.int x)) (hs : zs1 i (.int (x + v)) lv = lv1) (kk : ZV G Y kc ks pc1 lv1 st w) : ZV G Y kc ks pc lv st w := by
  obtain ⟨l, D, cA, B, t⟩ := G
  obtain ⟨p, e, R, s, m, args, below, meth, c, Q, nL⟩ := Y
  obtain ⟨hx, hb, hml, hnl, hown, hts, hK, hlk, hr, hnm, hR, hB, hZ, hN, hO, hCa⟩ := C
  subst hnl
  obtain ⟨hd, hv, rfl⟩ := hd
  obtain ⟨k, hk⟩ := List.getElem?_of_mem (zg_mem hg)
  intro H locs ls hP hD hS hl
  exact lv_iinc hx hb hd hl hk (by rw [hv]) hn hs (fun ls2 hl2 => kk H locs ls2 hP hD hS hl2)
theorem zx_ic (C : ZC G Y cc own nm ret rm nl) {v : Int32} (hd : zd_k cc own pc v pc1) (kk : ZV G Y kc ks pc1 lv (.int v :: st) w) : ZV G Y kc ks pc lv st w := by
  obtain ⟨l, D, cA, B, t⟩ := G
  obtain ⟨p, e, R, s, m, args, below, meth, c, Q, nL⟩ := Y
  obtain ⟨hx, hb, hml, hnl, hown, hts, hK, hlk, hr, hnm, hR, hB, hZ, hN, hO, hCa⟩ := C
  rcases hd with ⟨n, hd, hv, rfl⟩ | ⟨n, hd, hv, rfl⟩ | ⟨n, hd, hv, rfl⟩ | ⟨ix, hd, hv, rfl⟩
  · intro H locs ls hP hD hS hl
    exact lv_iconst hx hb hd hv (kk H locs ls hP hD hS hl)
  · intro H locs ls hP hD hS hl
    exact lv_bipush hx hb hd hv (kk H locs ls hP hD hS hl)
  · intro H locs ls hP hD hS hl
    exact lv_sipush hx hb hd hv (kk H locs ls hP hD hS hl)
  · intro H locs ls hP hD hS hl
    exact lv_ldcw hx hb hown (hts _ hv) hd (kk H locs ls hP hD hS hl)
theorem zx_lc (C : ZC G Y cc own nm ret rm nl) {v : Int64} (hd : zd_kl cc own pc v pc1) (kk : ZV G Y kc ks pc1 lv (.long v :: st) w) : ZV G Y kc ks pc lv st w := by
  obtain ⟨l, D, cA, B, t⟩ := G
  obtain ⟨p, e, R, s, m, args, below, meth, c, Q, nL⟩ := Y
  obtain ⟨hx, hb, hml, hnl, hown, hts, hK, hlk, hr, hnm, hR, hB, hZ, hN, hO, hCa⟩ := C
  rcases hd with ⟨n, hd, hv, rfl⟩ | ⟨ix, hd, hv, rfl⟩
  · intro H locs ls hP hD hS hl
    exact lv_lconst hx hb hd hv (kk H locs ls hP hD hS hl)
  · intro H locs ls hP hD hS hl
    exact lv_ldc2 hx hb hown (hts _ hv) hd (kk H locs ls hP hD hS hl)
theorem zx_if_eq (C : ZC G Y cc own nm ret rm nl) {x : Int32} {tg : Nat} (hd : zd_b cc pc (.ifCond .eq) pc1 tg) (kt : x = 0 → ZV G Y kc ks tg lv st w) (kf : ¬ x = 0 → ZV G Y kc ks pc1 lv st w) : ZV G Y kc ks pc lv (.int x :: st) w := by
  obtain ⟨l, D, cA, B, t⟩ := G
  obtain ⟨p, e, R, s, m, args, below, meth, c, Q, nL⟩ := Y
  obtain ⟨hx, hb, hml, hnl, hown, hts, hK, hlk, hr, hnm, hR, hB, hZ, hN, hO, hCa⟩ := C
  obtain ⟨off, hd, ht, rfl⟩ := hd
  intro H locs ls hP hD hS hl
  exact lv_if_eq hx hb hd ht (fun z => kt z H locs ls hP hD hS hl) (fun z => kf z H locs ls hP hD hS hl)
theorem zx_ic_eq (C : ZC G Y cc own nm ret rm nl) {x y : Int32} {tg : Nat} (hd : zd_b cc pc (.if_icmp .eq) pc1 tg) (kt : x = y → ZV G Y kc ks tg lv st w) (kf : ¬ x = y → ZV G Y kc ks pc1 lv st w) : ZV G Y kc ks pc lv (.int y :: .int x :: st) w := by
  obtain ⟨l, D, cA, B, t⟩ := G
  obtain ⟨p, e, R, s, m, args, below, meth, c, Q, nL⟩ := Y
  obtain ⟨hx, hb, hml, hnl, hown, hts, hK, hlk, hr, hnm, hR, hB, hZ, hN, hO, hCa⟩ := C
  obtain ⟨off, hd, ht, rfl⟩ := hd
  intro H locs ls hP hD hS hl
  exact lv_icmp_eq hx hb hd ht (fun z => kt z H locs ls hP hD hS hl) (fun z => kf z H locs ls hP hD hS hl)
theorem zx_if_ne (C : ZC G Y cc own nm ret rm nl) {x : Int32} {tg : Nat} (hd : zd_b cc pc (.ifCond .ne) pc1 tg) (kt : ¬ x = 0 → ZV G Y kc ks tg lv st w) (kf : x = 0 → ZV G Y kc ks pc1 lv st w) : ZV G Y kc ks pc lv (.int x :: st) w := by
  obtain ⟨l, D, cA, B, t⟩ := G
  obtain ⟨p, e, R, s, m, args, below, meth, c, Q, nL⟩ := Y
  obtain ⟨hx, hb, hml, hnl, hown, hts, hK, hlk, hr, hnm, hR, hB, hZ, hN, hO, hCa⟩ := C
  obtain ⟨off, hd, ht, rfl⟩ := hd
  intro H locs ls hP hD hS hl
  exact lv_if_ne hx hb hd ht (fun z => kt z H locs ls hP hD hS hl) (fun z => kf z H locs ls hP hD hS hl)
theorem zx_ic_ne (C : ZC G Y cc own nm ret rm nl) {x y : Int32} {tg : Nat} (hd : zd_b cc pc (.if_icmp .ne) pc1 tg) (kt : ¬ x = y → ZV G Y kc ks tg lv st w) (kf : x = y → ZV G Y kc ks pc1 lv st w) : ZV G Y kc ks pc lv (.int y :: .int x :: st) w := by
  obtain ⟨l, D, cA, B, t⟩ := G
  obtain ⟨p, e, R, s, m, args, below, meth, c, Q, nL⟩ := Y
  obtain ⟨hx, hb, hml, hnl, hown, hts, hK, hlk, hr, hnm, hR, hB, hZ, hN, hO, hCa⟩ := C
  obtain ⟨off, hd, ht, rfl⟩ := hd
  intro H locs ls hP hD hS hl
  exact lv_icmp_ne hx hb hd ht (fun z => kt z H locs ls hP hD hS hl) (fun z => kf z H locs ls hP hD hS hl)
theorem zx_if_lt (C : ZC G Y cc own nm ret rm nl) {x : Int32} {tg : Nat} (hd : zd_b cc pc (.ifCond .lt) pc1 tg) (kt : x < 0 → ZV G Y kc ks tg lv st w) (kf : ¬ x < 0 → ZV G Y kc ks pc1 lv st w) : ZV G Y kc ks pc lv (.int x :: st) w := by
  obtain ⟨l, D, cA, B, t⟩ := G
  obtain ⟨p, e, R, s, m, args, below, meth, c, Q, nL⟩ := Y
  obtain ⟨hx, hb, hml, hnl, hown, hts, hK, hlk, hr, hnm, hR, hB, hZ, hN, hO, hCa⟩ := C
  obtain ⟨off, hd, ht, rfl⟩ := hd
  intro H locs ls hP hD hS hl
  exact lv_if_lt hx hb hd ht (fun z => kt z H locs ls hP hD hS hl) (fun z => kf z H locs ls hP hD hS hl)
theorem zx_ic_lt (C : ZC G Y cc own nm ret rm nl) {x y : Int32} {tg : Nat} (hd : zd_b cc pc (.if_icmp .lt) pc1 tg) (kt : x < y → ZV G Y kc ks tg lv st w) (kf : ¬ x < y → ZV G Y kc ks pc1 lv st w) : ZV G Y kc ks pc lv (.int y :: .int x :: st) w := by
  obtain ⟨l, D, cA, B, t⟩ := G
  obtain ⟨p, e, R, s, m, args, below, meth, c, Q, nL⟩ := Y
  obtain ⟨hx, hb, hml, hnl, hown, hts, hK, hlk, hr, hnm, hR, hB, hZ, hN, hO, hCa⟩ := C
  obtain ⟨off, hd, ht, rfl⟩ := hd
  intro H locs ls hP hD hS hl
  exact lv_icmp_lt hx hb hd ht (fun z => kt z H locs ls hP hD hS hl) (fun z => kf z H locs ls hP hD hS hl)
theorem zx_if_ge (C : ZC G Y cc own nm ret rm nl) {x : Int32} {tg : Nat} (hd : zd_b cc pc (.ifCond .ge) pc1 tg) (kt : 0 ≤ x → ZV G Y kc ks tg lv st w) (kf : ¬ 0 ≤ x → ZV G Y kc ks pc1 lv st w) : ZV G Y kc ks pc lv (.int x :: st) w := by
  obtain ⟨l, D, cA, B, t⟩ := G
  obtain ⟨p, e, R, s, m, args, below, meth, c, Q, nL⟩ := Y
  obtain ⟨hx, hb, hml, hnl, hown, hts, hK, hlk, hr, hnm, hR, hB, hZ, hN, hO, hCa⟩ := C
  obtain ⟨off, hd, ht, rfl⟩ := hd
  intro H locs ls hP hD hS hl
  exact lv_if_ge hx hb hd ht (fun z => kt z H locs ls hP hD hS hl) (fun z => kf z H locs ls hP hD hS hl)
theorem zx_ic_ge (C : ZC G Y cc own nm ret rm nl) {x y : Int32} {tg : Nat} (hd : zd_b cc pc (.if_icmp .ge) pc1 tg) (kt : y ≤ x → ZV G Y kc ks tg lv st w) (kf : ¬ y ≤ x → ZV G Y kc ks pc1 lv st w) : ZV G Y kc ks pc lv (.int y :: .int x :: st) w := by
  obtain ⟨l, D, cA, B, t⟩ := G
  obtain ⟨p, e, R, s, m, args, below, meth, c, Q, nL⟩ := Y
  obtain ⟨hx, hb, hml, hnl, hown, hts, hK, hlk, hr, hnm, hR, hB, hZ, hN, hO, hCa⟩ := C
  obtain ⟨off, hd, ht, rfl⟩ := hd
  intro H locs ls hP hD hS hl
  exact lv_icmp_ge hx hb hd ht (fun z => kt z H locs ls hP hD hS hl) (fun z => kf z H locs ls hP hD hS hl)
theorem zx_if_gt (C : ZC G Y cc own nm ret rm nl) {x : Int32} {tg : Nat} (hd : zd_b cc pc (.ifCond .gt) pc1 tg) (kt : 0 < x → ZV G Y kc ks tg lv st w) (kf : ¬ 0 < x → ZV G Y kc ks pc1 lv st w) : ZV G Y kc ks pc lv (.int x :: st) w := by
  obtain ⟨l, D, cA, B, t⟩ := G
  obtain ⟨p, e, R, s, m, args, below, meth, c, Q, nL⟩ := Y
  obtain ⟨hx, hb, hml, hnl, hown, hts, hK, hlk, hr, hnm, hR, hB, hZ, hN, hO, hCa⟩ := C
  obtain ⟨off, hd, ht, rfl⟩ := hd
  intro H locs ls hP hD hS hl
  exact lv_if_gt hx hb hd ht (fun z => kt z H locs ls hP hD hS hl) (fun z => kf z H locs ls hP hD hS hl)
theorem zx_ic_gt (C : ZC G Y cc own nm ret rm nl) {x y : Int32} {tg : Nat} (hd : zd_b cc pc (.if_icmp .gt) pc1 tg) (kt : y < x → ZV G Y kc ks tg lv st w) (kf : ¬ y < x → ZV G Y kc ks pc1 lv st w) : ZV G Y kc ks pc lv (.int y :: .int x :: st) w := by
  obtain ⟨l, D, cA, B, t⟩ := G
  obtain ⟨p, e, R, s, m, args, below, meth, c, Q, nL⟩ := Y
  obtain ⟨hx, hb, hml, hnl, hown, hts, hK, hlk, hr, hnm, hR, hB, hZ, hN, hO, hCa⟩ := C
  obtain ⟨off, hd, ht, rfl⟩ := hd
  intro H locs ls hP hD hS hl
  exact lv_icmp_gt hx hb hd ht (fun z => kt z H locs ls hP hD hS hl) (fun z => kf z H locs ls hP hD hS hl)
theorem zx_if_le (C : ZC G Y cc own nm ret rm nl) {x : Int32} {tg : Nat} (hd : zd_b cc pc (.ifCond .le) pc1 tg) (kt : x ≤ 0 → ZV G Y kc ks tg lv st w) (kf : ¬ x ≤ 0 → ZV G Y kc ks pc1 lv st w) : ZV G Y kc ks pc lv (.int x :: st) w := by
  obtain ⟨l, D, cA, B, t⟩ := G
  obtain ⟨p, e, R, s, m, args, below, meth, c, Q, nL⟩ := Y
  obtain ⟨hx, hb, hml, hnl, hown, hts, hK, hlk, hr, hnm, hR, hB, hZ, hN, hO, hCa⟩ := C
  obtain ⟨off, hd, ht, rfl⟩ := hd
  intro H locs ls hP hD hS hl
  exact lv_if_le hx hb hd ht (fun z => kt z H locs ls hP hD hS hl) (fun z => kf z H locs ls hP hD hS hl)
theorem zx_ic_le (C : ZC G Y cc own nm ret rm nl) {x y : Int32} {tg : Nat} (hd : zd_b cc pc (.if_icmp .le) pc1 tg) (kt : x ≤ y → ZV G Y kc ks tg lv st w) (kf : ¬ x ≤ y → ZV G Y kc ks pc1 lv st w) : ZV G Y kc ks pc lv (.int y :: .int x :: st) w := by
  obtain ⟨l, D, cA, B, t⟩ := G
  obtain ⟨p, e, R, s, m, args, below, meth, c, Q, nL⟩ := Y
  obtain ⟨hx, hb, hml, hnl, hown, hts, hK, hlk, hr, hnm, hR, hB, hZ, hN, hO, hCa⟩ := C
  obtain ⟨off, hd, ht, rfl⟩ := hd
  intro H locs ls hP hD hS hl
  exact lv_icmp_le hx hb hd ht (fun z => kt z H locs ls hP hD hS hl) (fun z => kf z H locs ls hP hD hS hl)
theorem zx_goto (C : ZC G Y cc own nm ret rm nl) {tg : Nat} (hd : zd_b cc pc .goto pc1 tg) (kk : ZV G Y kc ks tg lv st w) : ZV G Y kc ks pc lv st w := by
  obtain ⟨l, D, cA, B, t⟩ := G
  obtain ⟨p, e, R, s, m, args, below, meth, c, Q, nL⟩ := Y
  obtain ⟨hx, hb, hml, hnl, hown, hts, hK, hlk, hr, hnm, hR, hB, hZ, hN, hO, hCa⟩ := C
  obtain ⟨off, hd, ht, rfl⟩ := hd
  intro H locs ls hP hD hS hl
  exact lv_goto hx hb hd ht (kk H locs ls hP hD hS hl)
theorem zx_ifnull (C : ZC G Y cc own nm ret rm nl) {r : Option Nat} {tg : Nat} (hd : zd_b cc pc .ifnull pc1 tg) (kt : r = none → ZV G Y kc ks tg lv st w) (kf : ∀ a, r = some a → ZV G Y kc ks pc1 lv st w) : ZV G Y kc ks pc lv (va_rf r :: st) w := by
  obtain ⟨l, D, cA, B, t⟩ := G
  obtain ⟨p, e, R, s, m, args, below, meth, c, Q, nL⟩ := Y
  obtain ⟨hx, hb, hml, hnl, hown, hts, hK, hlk, hr, hnm, hR, hB, hZ, hN, hO, hCa⟩ := C
  obtain ⟨off, hd, ht, rfl⟩ := hd
  intro H locs ls hP hD hS hl
  cases r with
  | none => exact lv_ifnullN hx hb hd ht (kt rfl H locs ls hP hD hS hl)
  | some a => exact lv_ifnull hx hb hd (kf a rfl H locs ls hP hD hS hl)
theorem zx_ifnonnull (C : ZC G Y cc own nm ret rm nl) {r : Option Nat} {tg : Nat} (hd : zd_b cc pc .ifnonnull pc1 tg) (kt : ∀ a, r = some a → ZV G Y kc ks tg lv st w) (kf : r = none → ZV G Y kc ks pc1 lv st w) : ZV G Y kc ks pc lv (va_rf r :: st) w := by
  obtain ⟨l, D, cA, B, t⟩ := G
  obtain ⟨p, e, R, s, m, args, below, meth, c, Q, nL⟩ := Y
  obtain ⟨hx, hb, hml, hnl, hown, hts, hK, hlk, hr, hnm, hR, hB, hZ, hN, hO, hCa⟩ := C
  obtain ⟨off, hd, ht, rfl⟩ := hd
  intro H locs ls hP hD hS hl
  cases r with
  | none => exact lv_ifnonnullN hx hb hd (kf rfl H locs ls hP hD hS hl)
  | some a => exact lv_ifnonnull hx hb hd ht (kt a rfl H locs ls hP hD hS hl)
theorem zx_ifnullR (C : ZC G Y cc own nm ret rm nl) {a : Nat} {tg : Nat} (hd : zd_b cc pc .ifnull pc1 tg) (kk : ZV G Y kc ks pc1 lv st w) : ZV G Y kc ks pc lv (.ref a :: st) w := by
  obtain ⟨l, D, cA, B, t⟩ := G
  obtain ⟨p, e, R, s, m, args, below, meth, c, Q, nL⟩ := Y
  obtain ⟨hx, hb, hml, hnl, hown, hts, hK, hlk, hr, hnm, hR, hB, hZ, hN, hO, hCa⟩ := C
  obtain ⟨off, hd, ht, rfl⟩ := hd
  intro H locs ls hP hD hS hl
  exact lv_ifnull hx hb hd (kk H locs ls hP hD hS hl)
theorem zx_ifnonnullR (C : ZC G Y cc own nm ret rm nl) {a : Nat} {tg : Nat} (hd : zd_b cc pc .ifnonnull pc1 tg) (kk : ZV G Y kc ks tg lv st w) : ZV G Y kc ks pc lv (.ref a :: st) w := by
  obtain ⟨l, D, cA, B, t⟩ := G
  obtain ⟨p, e, R, s, m, args, below, meth, c, Q, nL⟩ := Y
  obtain ⟨hx, hb, hml, hnl, hown, hts, hK, hlk, hr, hnm, hR, hB, hZ, hN, hO, hCa⟩ := C
  obtain ⟨off, hd, ht, rfl⟩ := hd
  intro H locs ls hP hD hS hl
  exact lv_ifnonnull hx hb hd ht (kk H locs ls hP hD hS hl)
theorem zx_ifnullN (C : ZC G Y cc own nm ret rm nl) {tg : Nat} (hd : zd_b cc pc .ifnull pc1 tg) (kk : ZV G Y kc ks tg lv st w) : ZV G Y kc ks pc lv (.null :: st) w := by
  obtain ⟨l, D, cA, B, t⟩ := G
  obtain ⟨p, e, R, s, m, args, below, meth, c, Q, nL⟩ := Y
  obtain ⟨hx, hb, hml, hnl, hown, hts, hK, hlk, hr, hnm, hR, hB, hZ, hN, hO, hCa⟩ := C
  obtain ⟨off, hd, ht, rfl⟩ := hd
  intro H locs ls hP hD hS hl
  exact lv_ifnullN hx hb hd ht (kk H locs ls hP hD hS hl)
theorem zx_ifnonnullN (C : ZC G Y cc own nm ret rm nl) {tg : Nat} (hd : zd_b cc pc .ifnonnull pc1 tg) (kk : ZV G Y kc ks pc1 lv st w) : ZV G Y kc ks pc lv (.null :: st) w := by
  obtain ⟨l, D, cA, B, t⟩ := G
  obtain ⟨p, e, R, s, m, args, below, meth, c, Q, nL⟩ := Y
  obtain ⟨hx, hb, hml, hnl, hown, hts, hK, hlk, hr, hnm, hR, hB, hZ, hN, hO, hCa⟩ := C
  obtain ⟨off, hd, ht, rfl⟩ := hd
  intro H locs ls hP hD hS hl
  exact lv_ifnonnullN hx hb hd (kk H locs ls hP hD hS hl)
theorem zx_table (C : ZC G Y cc own nm ret rm nl) {x : Int32} {dflt lo hi : Int} {offs : Array Int} {len : Nat} (hd : decode cc pc = .ok (.tableswitch dflt lo hi offs, len)) (ko : x.toInt < lo ∨ hi < x.toInt → ∃ tg : Nat, (pc : Int) + dflt = (tg : Int) ∧ ZV G Y kc ks tg lv st w) (ki : ¬ x.toInt < lo → ¬ hi < x.toInt → ∃ (off : Int) (tg : Nat), offs[(x.toInt - lo).toNat]? = some off ∧ (pc : Int) + off = (tg : Int) ∧ ZV G Y kc ks tg lv st w) : ZV G Y kc ks pc lv (.int x :: st) w := by
  obtain ⟨l, D, cA, B, t⟩ := G
  obtain ⟨p, e, R, s, m, args, below, meth, c, Q, nL⟩ := Y
  obtain ⟨hx, hb, hml, hnl, hown, hts, hK, hlk, hr, hnm, hR, hB, hZ, hN, hO, hCa⟩ := C
  intro H locs ls hP hD hS hl
  by_cases h1 : x.toInt < lo ∨ hi < x.toInt
  · obtain ⟨tg, ht, kk⟩ := ko h1
    exact lv_tableOut hx hb hd h1 ht (kk H locs ls hP hD hS hl)
  · obtain ⟨off, tg, ho, ht, kk⟩ := ki (fun z => h1 (Or.inl z)) (fun z => h1 (Or.inr z))
    exact lv_tableIn hx hb hd (fun z => h1 (Or.inl z)) (fun z => h1 (Or.inr z)) ho ht (kk H locs ls hP hD hS hl)
theorem zx_lookup (C : ZC G Y cc own nm ret rm nl) {x : Int32} {dflt : Int} {pz : Array (Int × Int)} {len : Nat} (hd : decode cc pc = .ok (.lookupswitch dflt pz, len)) (hp : (pz.toList.zip (pz.toList.drop 1)).all (fun (a, next) => a.1 < next.1) = true) (ki : ∃ tg : Nat, (pc : Int) + Op.lookupswitch.offset pz.toList dflt x.toInt = (tg : Int) ∧ ZV G Y kc ks tg lv st w) : ZV G Y kc ks pc lv (.int x :: st) w := by
  obtain ⟨l, D, cA, B, t⟩ := G
  obtain ⟨p, e, R, s, m, args, below, meth, c, Q, nL⟩ := Y
  obtain ⟨hx, hb, hml, hnl, hown, hts, hK, hlk, hr, hnm, hR, hB, hZ, hN, hO, hCa⟩ := C
  intro H locs ls hP hD hS hl
  obtain ⟨tg, ht, kk⟩ := ki
  exact lv_lookup hx hb hd hp rfl ht (kk H locs ls hP hD hS hl)
theorem zx_get (C : ZC G Y cc own nm ret rm nl) {idx ci k : Nat} (hf : zb_FL own idx ci k) (hd : zd cc pc (.getfield idx) 3 pc1) (q : Nat) {a : Nat} {fs : List Value} (hw : w[q]? = some (a, .inr (ci, fs))) {v : Value} (hv : fs[k]? = some v) (kk : ZV G Y kc ks pc1 lv (v :: st) w) : ZV G Y kc ks pc lv (.ref a :: st) w := by
  obtain ⟨l, D, cA, B, t⟩ := G
  obtain ⟨p, e, R, s, m, args, below, meth, c, Q, nL⟩ := Y
  obtain ⟨hx, hb, hml, hnl, hown, hts, hK, hlk, hr, hnm, hR, hB, hZ, hN, hO, hCa⟩ := C
  obtain ⟨hd, rfl⟩ := hd
  obtain ⟨Cn, T, N, ref, h1, h2, h3, h4, h5⟩ := hf
  intro H locs ls hP hD hS hl
  exact va_get (C := Cn) (T := T) (N := N) hx hb hts h3 hown hK hP q hw h1 k h2 (hts _ h4) (fun x hx2 => h5.elim (fun z => by rw [z]; exact hx2) (fun z => u_same (hts _ z) x hx2)) hv hd (kk H locs ls hP hD hS hl)
theorem zx_put (C : ZC G Y cc own nm ret rm nl) {idx ci k : Nat} {ty : FieldType} {w1 : va_W} (hf : zb_PL own idx ci k ty) (hd : zd cc pc (.putfield idx) 3 pc1) (q : Nat) {a : Nat} {fs : List Value} (hw : w[q]? = some (a, .inr (ci, fs))) {v : Value} (hv : zb_fit ty v) (hk : k < fs.length) (hs : w.set q (a, .inr (ci, fs.set k v)) = w1) (kk : ZV G Y kc ks pc1 lv st w1) : ZV G Y kc ks pc lv (v :: .ref a :: st) w := by
  obtain ⟨l, D, cA, B, t⟩ := G
  obtain ⟨p, e, R, s, m, args, below, meth, c, Q, nL⟩ := Y
  obtain ⟨hx, hb, hml, hnl, hown, hts, hK, hlk, hr, hnm, hR, hB, hZ, hN, hO, hCa⟩ := C
  obtain ⟨hd, rfl⟩ := hd
  obtain ⟨Cn, T, N, ref, ty0, h1, h2, h3, h4, h5, h6, h7, h8, h9⟩ := hf
  subst hs
  intro H locs ls hP hD hS hl
  exact va_put (C := Cn) (T := T) (N := N) hx hb hts h3 ty0 h6 h7 hown hK hP hD hS q hw h1 k h2 (hts _ h4) (fun x hx2 => h5.elim (fun z => by rw [z]; exact hx2) (fun z => u_same (hts _ z) x hx2)) h8 h9 hv.1 hv.2 hk hd (fun H1 locs1 hP1 hD1 hS1 => kk H1 locs1 ls hP1 hD1 hS1 hl)
theorem zx_putF (C : ZC G Y cc own nm ret rm nl) {idx ci k : Nat} {ty : FieldType} {w1 : va_W} (hi : nm = "<init>") (hf : zb_PF own idx ci k ty) (hd : zd cc pc (.putfield idx) 3 pc1) (q : Nat) {a : Nat} {fs : List Value} (hw : w[q]? = some (a, .inr (ci, fs))) {v : Value} (hv : zb_fit ty v) (hk : k < fs.length) (hs : w.set q (a, .inr (ci, fs.set k v)) = w1) (kk : ZV G Y kc ks pc1 lv st w1) : ZV G Y kc ks pc lv (v :: .ref a :: st) w := by
  obtain ⟨l, D, cA, B, t⟩ := G
  obtain ⟨p, e, R, s, m, args, below, meth, c, Q, nL⟩ := Y
  obtain ⟨hx, hb, hml, hnl, hown, hts, hK, hlk, hr, hnm, hR, hB, hZ, hN, hO, hCa⟩ := C
  obtain ⟨hd, rfl⟩ := hd
  obtain ⟨Cn, T, N, ref, ty0, h1, h2, h3, h4, h5, h6, h7, h8, h9, h10⟩ := hf
  subst hs
  intro H locs ls hP hD hS hl
  exact va_putF (C := Cn) (T := T) (N := N) hx hb hts h3 ty0 h6 h7 hown hK hP hD hS q hw h1 k h2 (hts _ h4) (fun x hx2 => h5.elim (fun z => by rw [z]; exact hx2) (fun z => u_same (hts _ z) x hx2)) h8 (hnm.trans hi) h10 h9 hv.1 hv.2 hk hd (fun H1 locs1 hP1 hD1 hS1 => kk H1 locs1 ls hP1 hD1 hS1 hl)
theorem zx_iald (C : ZC G Y cc own nm ret rm nl) {n : Nat} {f : Nat → Int32} {i : Int32} (hd : zd cc pc .iaload 1 pc1) (q : Nat) {a : Nat} (hw : w[q]? = some (a, .inl (zc G 0, n, .inl f))) (j : Nat) (hi : i = nI j) (hj : j < n) (hn : n < 2 ^ 31) (kk : ZV G Y kc ks pc1 lv (.int (f j) :: st) w) : ZV G Y kc ks pc lv (.int i :: .ref a :: st) w := by
  obtain ⟨l, D, cA, B, t⟩ := G
  obtain ⟨p, e, R, s, m, args, below, meth, c, Q, nL⟩ := Y
  obtain ⟨hx, hb, hml, hnl, hown, hts, hK, hlk, hr, hnm, hR, hB, hZ, hN, hO, hCa⟩ := C
  obtain ⟨hd, rfl⟩ := hd
  subst hi
  intro H locs ls hP hD hS hl
  refine va_iald hx hb hK hP q 0 hw rfl (vp_in_nI hj hn) hd ?_
  rw [nI_clamp (Nat.lt_trans hj hn)]
  exact kk H locs ls hP hD hS hl
theorem zx_zald (C : ZC G Y cc own nm ret rm nl) {n : Nat} {f : Nat → Int32} {i : Int32} (hd : zd cc pc .baload 1 pc1) (q : Nat) {a : Nat} (hw : w[q]? = some (a, .inl (zc G 1, n, .inl f))) (j : Nat) (hi : i = nI j) (hj : j < n) (hn : n < 2 ^ 31) (kk : ZV G Y kc ks pc1 lv (.int (f j) :: st) w) : ZV G Y kc ks pc lv (.int i :: .ref a :: st) w := by
  obtain ⟨l, D, cA, B, t⟩ := G
  obtain ⟨p, e, R, s, m, args, below, meth, c, Q, nL⟩ := Y
  obtain ⟨hx, hb, hml, hnl, hown, hts, hK, hlk, hr, hnm, hR, hB, hZ, hN, hO, hCa⟩ := C
  obtain ⟨hd, rfl⟩ := hd
  subst hi
  intro H locs ls hP hD hS hl
  refine va_zald hx hb hK hP q 1 hw rfl (vp_in_nI hj hn) hd ?_
  rw [nI_clamp (Nat.lt_trans hj hn)]
  exact kk H locs ls hP hD hS hl
theorem zx_lald (C : ZC G Y cc own nm ret rm nl) {n : Nat} {f : Nat → Int64} {i : Int32} (hd : zd cc pc .laload 1 pc1) (q : Nat) {a : Nat} (hw : w[q]? = some (a, .inl (zc G 2, n, .inr (.inl f)))) (j : Nat) (hi : i = nI j) (hj : j < n) (hn : n < 2 ^ 31) (kk : ZV G Y kc ks pc1 lv (.long (f j) :: st) w) : ZV G Y kc ks pc lv (.int i :: .ref a :: st) w := by
  obtain ⟨l, D, cA, B, t⟩ := G
  obtain ⟨p, e, R, s, m, args, below, meth, c, Q, nL⟩ := Y
  obtain ⟨hx, hb, hml, hnl, hown, hts, hK, hlk, hr, hnm, hR, hB, hZ, hN, hO, hCa⟩ := C
  obtain ⟨hd, rfl⟩ := hd
  subst hi
  intro H locs ls hP hD hS hl
  refine va_lald hx hb hK hP q 2 hw rfl (vp_in_nI hj hn) hd ?_
  rw [nI_clamp (Nat.lt_trans hj hn)]
  exact kk H locs ls hP hD hS hl
theorem zx_aald3 (C : ZC G Y cc own nm ret rm nl) {n : Nat} {f : Nat → Option Nat} {i : Int32} (hd : zd cc pc .aaload 1 pc1) (q : Nat) {a : Nat} (hw : w[q]? = some (a, .inl (zc G 3, n, .inr (.inr (.inr (.inr f)))))) (j : Nat) (hi : i = nI j) (hj : j < n) (hn : n < 2 ^ 31) (kk : ZV G Y kc ks pc1 lv (va_rf (f j) :: st) w) : ZV G Y kc ks pc lv (.int i :: .ref a :: st) w := by
  obtain ⟨l, D, cA, B, t⟩ := G
  obtain ⟨p, e, R, s, m, args, below, meth, c, Q, nL⟩ := Y
  obtain ⟨hx, hb, hml, hnl, hown, hts, hK, hlk, hr, hnm, hR, hB, hZ, hN, hO, hCa⟩ := C
  obtain ⟨hd, rfl⟩ := hd
  subst hi
  intro H locs ls hP hD hS hl
  refine va_aldq hx hb hK hP q 3 hw rfl (vp_in_nI hj hn) hd ?_
  rw [nI_clamp (Nat.lt_trans hj hn)]
  exact kk H locs ls hP hD hS hl
theorem zx_aald4 (C : ZC G Y cc own nm ret rm nl) {n : Nat} {f : Nat → Option Nat} {i : Int32} (hd : zd cc pc .aaload 1 pc1) (q : Nat) {a : Nat} (hw : w[q]? = some (a, .inl (zc G 4, n, .inr (.inr (.inr (.inr f)))))) (j : Nat) (hi : i = nI j) (hj : j < n) (hn : n < 2 ^ 31) (kk : ZV G Y kc ks pc1 lv (va_rf (f j) :: st) w) : ZV G Y kc ks pc lv (.int i :: .ref a :: st) w := by
  obtain ⟨l, D, cA, B, t⟩ := G
  obtain ⟨p, e, R, s, m, args, below, meth, c, Q, nL⟩ := Y
  obtain ⟨hx, hb, hml, hnl, hown, hts, hK, hlk, hr, hnm, hR, hB, hZ, hN, hO, hCa⟩ := C
  obtain ⟨hd, rfl⟩ := hd
  subst hi
  intro H locs ls hP hD hS hl
  refine va_aldq hx hb hK hP q 4 hw rfl (vp_in_nI hj hn) hd ?_
  rw [nI_clamp (Nat.lt_trans hj hn)]
  exact kk H locs ls hP hD hS hl
theorem zx_aald5 (C : ZC G Y cc own nm ret rm nl) {n : Nat} {f : Nat → Option Nat} {i : Int32} (hd : zd cc pc .aaload 1 pc1) (q : Nat) {a : Nat} (hw : w[q]? = some (a, .inl (zc G 5, n, .inr (.inr (.inr (.inr f)))))) (j : Nat) (hi : i = nI j) (hj : j < n) (hn : n < 2 ^ 31) (kk : ZV G Y kc ks pc1 lv (va_rf (f j) :: st) w) : ZV G Y kc ks pc lv (.int i :: .ref a :: st) w := by
  obtain ⟨l, D, cA, B, t⟩ := G
  obtain ⟨p, e, R, s, m, args, below, meth, c, Q, nL⟩ := Y
  obtain ⟨hx, hb, hml, hnl, hown, hts, hK, hlk, hr, hnm, hR, hB, hZ, hN, hO, hCa⟩ := C
  obtain ⟨hd, rfl⟩ := hd
  subst hi
  intro H locs ls hP hD hS hl
  refine va_aldq hx hb hK hP q 5 hw rfl (vp_in_nI hj hn) hd ?_
  rw [nI_clamp (Nat.lt_trans hj hn)]
  exact kk H locs ls hP hD hS hl
theorem zx_iast (C : ZC G Y cc own nm ret rm nl) {n : Nat} {f : Nat → Int32} {i : Int32} {x : Int32} {w1 : va_W} (hd : zd cc pc .iastore 1 pc1) (q : Nat) {a : Nat} (hw : w[q]? = some (a, .inl (zc G 0, n, .inl f))) (j : Nat) (hi : i = nI j) (hj : j < n) (hn : n < 2 ^ 31) (hs : w.set q (a, .inl (zc G 0, n, .inl (upd f j x))) = w1) (kk : ZV G Y kc ks pc1 lv st w1) : ZV G Y kc ks pc lv (.int x :: .int i :: .ref a :: st) w := by
  obtain ⟨l, D, cA, B, t⟩ := G
  obtain ⟨p, e, R, s, m, args, below, meth, c, Q, nL⟩ := Y
  obtain ⟨hx, hb, hml, hnl, hown, hts, hK, hlk, hr, hnm, hR, hB, hZ, hN, hO, hCa⟩ := C
  obtain ⟨hd, rfl⟩ := hd
  subst hi
  subst hs
  intro H locs ls hP hD hS hl
  refine va_iast hx hb hK hP hD hS q 0 hw rfl (vp_in_nI hj hn) hd ?_
  rw [nI_clamp (Nat.lt_trans hj hn)]
  exact fun H1 locs1 hP1 hD1 hS1 => kk H1 locs1 ls hP1 hD1 hS1 hl
theorem zx_last (C : ZC G Y cc own nm ret rm nl) {n : Nat} {f : Nat → Int64} {i : Int32} {x : Int64} {w1 : va_W} (hd : zd cc pc .lastore 1 pc1) (q : Nat) {a : Nat} (hw : w[q]? = some (a, .inl (zc G 2, n, .inr (.inl f)))) (j : Nat) (hi : i = nI j) (hj : j < n) (hn : n < 2 ^ 31) (hs : w.set q (a, .inl (zc G 2, n, .inr (.inl (vp_updL f j x)))) = w1) (kk : ZV G Y kc ks pc1 lv st w1) : ZV G Y kc ks pc lv (.long x :: .int i :: .ref a :: st) w := by
  obtain ⟨l, D, cA, B, t⟩ := G
  obtain ⟨p, e, R, s, m, args, below, meth, c, Q, nL⟩ := Y
  obtain ⟨hx, hb, hml, hnl, hown, hts, hK, hlk, hr, hnm, hR, hB, hZ, hN, hO, hCa⟩ := C
  obtain ⟨hd, rfl⟩ := hd
  subst hi
  subst hs
  intro H locs ls hP hD hS hl
  refine va_last hx hb hK hP hD hS q 2 hw rfl (vp_in_nI hj hn) hd ?_
  rw [nI_clamp (Nat.lt_trans hj hn)]
  exact fun H1 locs1 hP1 hD1 hS1 => kk H1 locs1 ls hP1 hD1 hS1 hl
theorem zx_zast (C : ZC G Y cc own nm ret rm nl) {n : Nat} {f : Nat → Int32} {i x : Int32} {w1 : va_W} (hd : zd cc pc .bastore 1 pc1) (q : Nat) {a : Nat} (hw : w[q]? = some (a, .inl (zc G 1, n, .inl f))) (j : Nat) (hi : i = nI j) (hj : j < n) (hn : n < 2 ^ 31) (hx01 : x = 0 ∨ x = 1) (hs : w.set q (a, .inl (zc G 1, n, .inl (upd f j x))) = w1) (kk : ZV G Y kc ks pc1 lv st w1) : ZV G Y kc ks pc lv (.int x :: .int i :: .ref a :: st) w := by
  obtain ⟨l, D, cA, B, t⟩ := G
  obtain ⟨p, e, R, s, m, args, below, meth, c, Q, nL⟩ := Y
  obtain ⟨hx, hb, hml, hnl, hown, hts, hK, hlk, hr, hnm, hR, hB, hZ, hN, hO, hCa⟩ := C
  obtain ⟨hd, rfl⟩ := hd
  subst hi
  subst hs
  have hx2 : vp_nar .boolean x = x := by rcases hx01 with rfl | rfl <;> rfl
  intro H locs ls hP hD hS hl
  refine va_zast hx hb hK hP hD hS q 1 hw rfl (vp_in_nI hj hn) hd ?_
  rw [nI_clamp (Nat.lt_trans hj hn), hx2]
  exact fun H1 locs1 hP1 hD1 hS1 => kk H1 locs1 ls hP1 hD1 hS1 hl
theorem zx_alen (C : ZC G Y cc own nm ret rm nl) {x : vp_A} {tix : Nat} {ty : FieldType} (hd : zd cc pc .arraylength 1 pc1) (q : Nat) {a : Nat} (hw : w[q]? = some (a, .inl (zc G tix, x))) (ht : (zb_tys (zc G))[tix]? = some (zc G tix, ty)) (kk : ZV G Y kc ks pc1 lv (.int (nI x.1) :: st) w) : ZV G Y kc ks pc lv (.ref a :: st) w := by
  obtain ⟨l, D, cA, B, t⟩ := G
  obtain ⟨p, e, R, s, m, args, below, meth, c, Q, nL⟩ := Y
  obtain ⟨hx, hb, hml, hnl, hown, hts, hK, hlk, hr, hnm, hR, hB, hZ, hN, hO, hCa⟩ := C
  obtain ⟨hd, rfl⟩ := hd
  intro H locs ls hP hD hS hl
  exact va_alen hx hb hK hP q tix hw ht rfl hd (kk H locs ls hP hD hS hl)
theorem zx_gets (C : ZC G Y cc own nm ret rm nl) {idx : Nat} (hf : Cond.fieldLink own idx "SameTuesday" "SO" "[J" ∈ zb_tb) (hd : zd cc pc (.getstatic idx) 3 pc1) (kk : ZV G Y kc ks pc1 lv (.ref (zso G) :: st) w) : ZV G Y kc ks pc lv st w := by
  obtain ⟨l, D, cA, B, t⟩ := G
  obtain ⟨p, e, R, s, m, args, below, meth, c, Q, nL⟩ := Y
  obtain ⟨hx, hb, hml, hnl, hown, hts, hK, hlk, hr, hnm, hR, hB, hZ, hN, hO, hCa⟩ := C
  obtain ⟨hd, rfl⟩ := hd
  intro H locs ls hP hD hS hl
  exact va_gets hx hb hZ.1 hS hown (hts _ hf) (fun _ h9 => h9) hd (kk H locs ls hP hD hS hl)
theorem zx_solen (C : ZC G Y cc own nm ret rm nl)  (hd : zd cc pc .arraylength 1 pc1) (kk : ZV G Y kc ks pc1 lv (.int 6 :: st) w) : ZV G Y kc ks pc lv (.ref (zso G) :: st) w := by
  obtain ⟨l, D, cA, B, t⟩ := G
  obtain ⟨p, e, R, s, m, args, below, meth, c, Q, nL⟩ := Y
  obtain ⟨hx, hb, hml, hnl, hown, hts, hK, hlk, hr, hnm, hR, hB, hZ, hN, hO, hCa⟩ := C
  obtain ⟨hd, rfl⟩ := hd
  intro H locs ls hP hD hS hl
  exact va_tlen hx hb hZ.2 hS rfl hd (kk H locs ls hP hD hS hl)
theorem zx_sold (C : ZC G Y cc own nm ret rm nl) {i : Int32} (hd : zd cc pc .laload 1 pc1) (j : Nat) (hi : i = nI j) (hj : j < 6) (kk : ZV G Y kc ks pc1 lv (.long (zb_so j) :: st) w) : ZV G Y kc ks pc lv (.int i :: .ref (zso G) :: st) w := by
  obtain ⟨l, D, cA, B, t⟩ := G
  obtain ⟨p, e, R, s, m, args, below, meth, c, Q, nL⟩ := Y
  obtain ⟨hx, hb, hml, hnl, hown, hts, hK, hlk, hr, hnm, hR, hB, hZ, hN, hO, hCa⟩ := C
  obtain ⟨hd, rfl⟩ := hd
  subst hi
  intro H locs ls hP hD hS hl
  refine va_tl hx hb hZ.2 hS (vp_in_nI hj (by decide)) rfl hd ?_
  rw [nI_clamp (Nat.lt_trans hj (by decide))]
  exact kk H locs ls hP hD hS hl
theorem zx_iret {post : Option Value → va_W → Prop} (C : ZC G Y cc own nm (some .int) rm nl) (hq : ZQ G Y post kc ks) {v : Int32} (hd : zd cc pc .ireturn 1 pc1) (hp : post (some (.int v)) w) : ZV G Y kc ks pc lv [.int v] w := by
  obtain ⟨l, D, cA, B, t⟩ := G
  obtain ⟨p, e, R, s, m, args, below, meth, c, Q, nL⟩ := Y
  obtain ⟨hx, hb, hml, hnl, hown, hts, hK, hlk, hr, hnm, hR, hB, hZ, hN, hO, hCa⟩ := C
  obtain rfl : Q = _ := hq
  obtain ⟨hd, rfl⟩ := hd
  intro H locs ls hP hD hS hl
  exact W.iret hx hb hr (fun t2 ht hW => ⟨⟨(some (.int v)), w, rfl, hp, by rw [ht]; exact hP, hD⟩, hS.F ht⟩) hS.2.2 hd
theorem zx_zret {post : Option Value → va_W → Prop} (C : ZC G Y cc own nm (some .boolean) rm nl) (hq : ZQ G Y post kc ks) {v : Int32} (hv : v = 0 ∨ v = 1) (hd : zd cc pc .ireturn 1 pc1) (hp : post (some (.int v)) w) : ZV G Y kc ks pc lv [.int v] w := by
  obtain ⟨l, D, cA, B, t⟩ := G
  obtain ⟨p, e, R, s, m, args, below, meth, c, Q, nL⟩ := Y
  obtain ⟨hx, hb, hml, hnl, hown, hts, hK, hlk, hr, hnm, hR, hB, hZ, hN, hO, hCa⟩ := C
  obtain rfl : Q = _ := hq
  obtain ⟨hd, rfl⟩ := hd
  intro H locs ls hP hD hS hl
  exact W.zret hx hb hr (by rcases hv with rfl | rfl <;> rfl) (fun t2 ht hW => ⟨⟨(some (.int v)), w, rfl, hp, by rw [ht]; exact hP, hD⟩, hS.F ht⟩) hS.2.2 hd
theorem zx_lret {post : Option Value → va_W → Prop} (C : ZC G Y cc own nm (some .long) rm nl) (hq : ZQ G Y post kc ks) {v : Int64} (hd : zd cc pc .lreturn 1 pc1) (hp : post (some (.long v)) w) : ZV G Y kc ks pc lv [.long v] w := by
  obtain ⟨l, D, cA, B, t⟩ := G
  obtain ⟨p, e, R, s, m, args, below, meth, c, Q, nL⟩ := Y
  obtain ⟨hx, hb, hml, hnl, hown, hts, hK, hlk, hr, hnm, hR, hB, hZ, hN, hO, hCa⟩ := C
  obtain rfl : Q = _ := hq
  obtain ⟨hd, rfl⟩ := hd
  intro H locs ls hP hD hS hl
  exact W.lret hx hb hr (fun t2 ht hW => ⟨⟨(some (.long v)), w, rfl, hp, by rw [ht]; exact hP, hD⟩, hS.F ht⟩) hS.2.2 hd
theorem zx_vret {post : Option Value → va_W → Prop} (C : ZC G Y cc own nm none rm nl) (hq : ZQ G Y post kc ks) (hd : zd cc pc .return_ 1 pc1) (hp : post none w) : ZV G Y kc ks pc lv [] w := by
  obtain ⟨l, D, cA, B, t⟩ := G
  obtain ⟨p, e, R, s, m, args, below, meth, c, Q, nL⟩ := Y
  obtain ⟨hx, hb, hml, hnl, hown, hts, hK, hlk, hr, hnm, hR, hB, hZ, hN, hO, hCa⟩ := C
  obtain rfl : Q = _ := hq
  obtain ⟨hd, rfl⟩ := hd
  intro H locs ls hP hD hS hl
  exact W.vret hx hb hr (fun t2 ht hW => ⟨⟨none, w, rfl, hp, by rw [ht]; exact hP, hD⟩, hS.F ht⟩) hS.2.2 hd
theorem zx_aret {post : Option Value → va_W → Prop} {E : String} (C : ZC G Y cc own nm (some (.object E)) rm nl) (hq : ZQ G Y post kc ks) {r : Option Nat} (hd : zd cc pc .areturn 1 pc1) (hp : post (some (va_rf r)) w) : ZV G Y kc ks pc lv [va_rf r] w := by
  obtain ⟨l, D, cA, B, t⟩ := G
  obtain ⟨p, e, R, s, m, args, below, meth, c, Q, nL⟩ := Y
  obtain ⟨hx, hb, hml, hnl, hown, hts, hK, hlk, hr, hnm, hR, hB, hZ, hN, hO, hCa⟩ := C
  obtain rfl : Q = _ := hq
  obtain ⟨hd, rfl⟩ := hd
  intro H locs ls hP hD hS hl
  exact W.aret hx hb hr (Or.inl ⟨_, rfl⟩) (by cases r with | none => exact Or.inl rfl | some a => exact Or.inr ⟨a, rfl⟩) (fun t2 ht hW => ⟨⟨(some (va_rf r)), w, rfl, hp, by rw [ht]; exact hP, hD⟩, hS.F ht⟩) hS.2.2 hd
end ZRows
/-! contracts and calls -/
theorem zb_pay {args : Array Value} {s : State} (hts : ∀ w ∈ zb_tb, w.before args s = true) : ∀ w ∈ zb_tb, ∀ (a' : Array Value) (U : State), s.WarmedH U.vm → w.before a' U = true := fun w hw a' U hW => word_at hW (good_of_word (List.mem_filter.mp hw).2) (hts w hw)
theorem zb_payc {args : Array Value} {s : State} {x : Cond} (hts : ∀ w ∈ zb_tb, w.before args s = true) (hx : x ∈ zb_tb) : ∀ w ∈ x :: zb_tb, ∀ (a' : Array Value) (U : State), s.WarmedH U.vm → w.before a' U = true := fun w hw a' U hW => by
  rcases List.mem_cons.mp hw with rfl | h
  · exact zb_pay hts w hx a' U hW
  · exact zb_pay hts w h a' U hW
theorem zb_blind {G : ZG} {av : List Value} {w : va_W} : FrameBlind (va_Pc av (ZE G w)) := by
  intro a U g mk q
  obtain ⟨q0, q1, ⟨qK, qZ, qN, qO, qC⟩, qP, qD⟩ := q
  exact ⟨q0, q1, ⟨va_K.moved (u := U) (U := U.calling g mk a) (Vm.Alike.refl U.vm) qK, ⟨va_Z.moved (u := U) (U := U.calling g mk a) (Vm.Alike.refl U.vm) qZ.1, va_T.moved (u := U) (U := U.calling g mk a) (Vm.Alike.refl U.vm) qZ.2⟩, fun q hq => va_Nw.same (u := U) (U := U.calling g mk a) rfl rfl (qN q hq), fun C hC => va_AO.moved (u := U) (U := U.calling g mk a) (Vm.Alike.refl U.vm) (qO C hC), fun q hq => va_Nw.same (u := U) (U := U.calling g mk a) rfl rfl (qC q hq)⟩, qP, qD⟩
theorem zb_enter {l : Launch} {D : va_G} {cA : Nat → ClassId} {B t : Nat} {s U : State} {H : Heap} {locs : List Loc} {w : va_W} (hB : B ≤ s.heap.size) (hK : va_K D zb_cl (zb_tys cA) s) (hZ : zb_S B t s s.heap) (hN : ∀ q ∈ zb_nest, va_Nw (.methodLinkNest q.1 q.2.1 q.2.2.1 q.2.2.2) s) (hO : ∀ C ∈ zb_ao, va_AO C s) (hCa : ∀ q ∈ zb_ca, va_Nw (.castable q.1 q.2) s) (hP : va_P D zb_cl w H) (hD : va_D (zb_A B) w) (hS : va_S (zb_A B) s.heap H locs) (hU : U.heap = H) (hW : s.WarmedH U.vm) : ZE (l, D, cA, B, t) w U := by
  subst hU
  exact ⟨Nat.le_trans hB hS.1, ⟨va_K.moved hW.alike hK, ⟨va_Z.moved hW.alike (va_Z.kept hZ.1 hS.2.1), va_T.moved hW.alike (va_T.kept hZ.2 hS.2.1)⟩, fun q hq => va_Nw.warmM hW (hN q hq), fun C hC => va_AO.moved hW.alike (hO C hC), fun q hq => va_Nw.warmC hW (hCa q hq)⟩, hP, hD⟩
theorem ZM.of {G : ZG} {y : MethodName} {bytes : ByteArray} {maxL : Nat} {ret : Option FieldType} {rm : Room} {av : List Value} {w : va_W} {post : Option Value → va_W → Prop} (own nm : String) (ho : y.cls = own) (hn : y.name = nm) (hy : plainName y.cls = true) (hlen : (lg_sl av).length ≤ maxL) (body : ∀ Y : ZY, ZC G Y bytes own nm ret rm maxL → ZQ G Y post rm.cells rm.slots → ZV G Y 0 0 0 (lv_args 0 av) [] w) : ZM G y bytes maxL ret rm av w post := by
  obtain ⟨l, D, cA, B, t⟩ := G
  refine Met.ofW (cc := bytes) (maxL := maxL) (ret := ret) hy rfl ?_
  intro p e s m args below meth c s₁ Bd hml hv
  obtain ⟨rfl, hB, ⟨hK, hZ, hN, hO, hCa⟩, hP, hD⟩ := hv
  have hts0 := atoms_spec (ws := Cond.code y bytes maxL ret :: zb_tb) Bd.pre
  have hl := lv_entry av (n := maxL) hlen
  rw [lg_entry_eq]
  refine body (p, e, rm, s, m, av.toArray, below, meth, c, MQ below (ZQc D B post) av.toArray s rm.cells rm.slots (zb_A B), maxL) ?_ rfl s.heap [] _ hP hD va_S.rf hl
  exact ⟨Bd.exec, Bd.bytes, hml, rfl, by rw [← ho]; exact findClass_of_methodNamed Bd.named, fun w hw => hts0 w (List.mem_cons_of_mem _ hw), hK, Bd.notSynchronized, Bd.returns, by rw [← hn]; exact (name_of_methodNamed Bd.named Bd.method).1, rfl, hB, hZ, hN, hO, hCa⟩
def ZR : ZG → ZY → Nat → Nat → Nat → Nat → List (Nat × Value) → List Value → va_W → List Value → Nat → Nat → (Option Value → va_W → Prop) → Prop
  | (l, D, _, B, _), (p, e, R, s, m, args, below, meth, c, _, nL), kc, ks, pc, pc1, lv, st, w, rest, mc, ms, post => pc + 3 = pc1 ∧
    ∀ (H : Heap) (locs : List Loc) (ls : Array Slot), va_P D zb_cl w H → va_D (zb_A B) w → va_S (zb_A B) s.heap H locs → lv_has ls nL lv → ∃ a : Array Value, va_Run p l e R s m args below meth c H locs kc ks mc ms (F0 m pc ls st) rest (ZQc D B post a) (zb_A B)
theorem zr_end {G : ZG} {Y : ZY} {kc ks pc pc1 mc ms : Nat} {lv : List (Nat × Value)} {st rest : List Value} {w : va_W} {post : Option Value → va_W → Prop} (hr : ZR G Y kc ks pc pc1 lv st w rest mc ms post) (kk : ∀ (v : Option Value) (w1 : va_W), post v w1 → ZV G Y (kc + mc) (ks + ms) pc1 lv (v.toList ++ rest) w1) : ZV G Y kc ks pc lv st w := by
  obtain ⟨l, D, cA, B, t⟩ := G
  obtain ⟨p, e, R, s, m, args, below, meth, c, Q, nL⟩ := Y
  obtain ⟨rfl, hr⟩ := hr
  intro H locs ls hP hD hS hl T hT X
  obtain ⟨a, hr⟩ := hr H locs ls hP hD hS hl
  obtain ⟨v, st₀, t2, T', L, h0, X', hL, e1, e2, ⟨⟨v', w', hv, hp, hP', hD'⟩, hF1, hF2⟩, stp⟩ := hr T hT X
  cases hv
  rw [h0] at hF1 hF2
  obtain ⟨t3, a1, b1⟩ := kk v w' hp T'.heap (locs ++ L) ls (by rw [e1]; exact hP') hD' ⟨Nat.le_trans hS.1 (by rw [e1]; exact hF1), fun q h1 h2 => by rw [e1, hF2 q (Nat.lt_of_lt_of_le h1 hS.1) h2]; exact hS.2.1 q h1 h2, fun q hq => by
      rcases List.mem_append.mp hq with h | h
      · exact hS.2.2 q h
      · exact hL q h⟩ hl T' rfl X'
  exact ⟨t3, stp t3 a1, b1⟩
def zpi (P : Int32 → va_W → Prop) : Option Value → va_W → Prop := fun v w => ∃ r : Int32, v = some (.int r) ∧ P r w
def zpl (P : Int64 → va_W → Prop) : Option Value → va_W → Prop := fun v w => ∃ r : Int64, v = some (.long r) ∧ P r w
def zpq (P : Option Nat → va_W → Prop) : Option Value → va_W → Prop := fun v w => ∃ r : Option Nat, v = some (va_rf r) ∧ P r w
def zpv (P : va_W → Prop) : Option Value → va_W → Prop := fun v w => v = none ∧ P w
def zdi (r0 : Int32) (w0 : va_W) : Option Value → va_W → Prop := fun v w => v = some (.int r0) ∧ w = w0
def zdl (r0 : Int64) (w0 : va_W) : Option Value → va_W → Prop := fun v w => v = some (.long r0) ∧ w = w0
def zdq (r0 : Option Nat) (w0 : va_W) : Option Value → va_W → Prop := fun v w => v = some (va_rf r0) ∧ w = w0
def zdv (w0 : va_W) : Option Value → va_W → Prop := fun v w => v = none ∧ w = w0
section ZEnds
variable {G : ZG} {Y : ZY} {kc ks pc pc1 mc ms : Nat} {lv : List (Nat × Value)} {st rest : List Value} {w w0 : va_W}
theorem zr_i {P : Int32 → va_W → Prop} (hr : ZR G Y kc ks pc pc1 lv st w rest 0 0 (zpi P)) (kk : ∀ (r : Int32) (w1 : va_W), P r w1 → ZV G Y kc ks pc1 lv (.int r :: rest) w1) : ZV G Y kc ks pc lv st w := zr_end hr (fun v w1 h => by obtain ⟨r, rfl, h⟩ := h; exact kk r w1 h)
theorem zr_l {P : Int64 → va_W → Prop} (hr : ZR G Y kc ks pc pc1 lv st w rest 0 0 (zpl P)) (kk : ∀ (r : Int64) (w1 : va_W), P r w1 → ZV G Y kc ks pc1 lv (.long r :: rest) w1) : ZV G Y kc ks pc lv st w := zr_end hr (fun v w1 h => by obtain ⟨r, rfl, h⟩ := h; exact kk r w1 h)
theorem zr_q {P : Option Nat → va_W → Prop} (hr : ZR G Y kc ks pc pc1 lv st w rest 0 0 (zpq P)) (kk : ∀ (r : Option Nat) (w1 : va_W), P r w1 → ZV G Y kc ks pc1 lv (va_rf r :: rest) w1) : ZV G Y kc ks pc lv st w := zr_end hr (fun v w1 h => by obtain ⟨r, rfl, h⟩ := h; exact kk r w1 h)
theorem zr_v {P : va_W → Prop} (hr : ZR G Y kc ks pc pc1 lv st w rest 0 0 (zpv P)) (kk : ∀ w1 : va_W, P w1 → ZV G Y kc ks pc1 lv rest w1) : ZV G Y kc ks pc lv st w := zr_end hr (fun v w1 h => by obtain ⟨rfl, h⟩ := h; exact kk w1 h)
theorem zr_di {r0 : Int32} (hr : ZR G Y kc ks pc pc1 lv st w rest 0 0 (zdi r0 w0)) (kk : ZV G Y kc ks pc1 lv (.int r0 :: rest) w0) : ZV G Y kc ks pc lv st w := zr_end hr (fun v w1 h => by obtain ⟨rfl, rfl⟩ := h; exact kk)
theorem zr_dl {r0 : Int64} (hr : ZR G Y kc ks pc pc1 lv st w rest 0 0 (zdl r0 w0)) (kk : ZV G Y kc ks pc1 lv (.long r0 :: rest) w0) : ZV G Y kc ks pc lv st w := zr_end hr (fun v w1 h => by obtain ⟨rfl, rfl⟩ := h; exact kk)
theorem zr_dq {r0 : Option Nat} (hr : ZR G Y kc ks pc pc1 lv st w rest 0 0 (zdq r0 w0)) (kk : ZV G Y kc ks pc1 lv (va_rf r0 :: rest) w0) : ZV G Y kc ks pc lv st w := zr_end hr (fun v w1 h => by obtain ⟨rfl, rfl⟩ := h; exact kk)
theorem zr_dv (hr : ZR G Y kc ks pc pc1 lv st w rest 0 0 (zdv w0)) (kk : ZV G Y kc ks pc1 lv rest w0) : ZV G Y kc ks pc lv st w := zr_end hr (fun v w1 h => by obtain ⟨rfl, rfl⟩ := h; exact kk)
/-- with cells made -/
theorem zr_iA {P : Int32 → va_W → Prop} (hr : ZR G Y kc ks pc pc1 lv st w rest mc ms (zpi P)) (kk : ∀ (r : Int32) (w1 : va_W), P r w1 → ZV G Y (kc + mc) (ks + ms) pc1 lv (.int r :: rest) w1) : ZV G Y kc ks pc lv st w := zr_end hr (fun v w1 h => by obtain ⟨r, rfl, h⟩ := h; exact kk r w1 h)
theorem zr_vA {P : va_W → Prop} (hr : ZR G Y kc ks pc pc1 lv st w rest mc ms (zpv P)) (kk : ∀ w1 : va_W, P w1 → ZV G Y (kc + mc) (ks + ms) pc1 lv rest w1) : ZV G Y kc ks pc lv st w := zr_end hr (fun v w1 h => by obtain ⟨rfl, h⟩ := h; exact kk w1 h)
theorem zr_qA {P : Option Nat → va_W → Prop} (hr : ZR G Y kc ks pc pc1 lv st w rest mc ms (zpq P)) (kk : ∀ (r : Option Nat) (w1 : va_W), P r w1 → ZV G Y (kc + mc) (ks + ms) pc1 lv (va_rf r :: rest) w1) : ZV G Y kc ks pc lv st w := zr_end hr (fun v w1 h => by obtain ⟨r, rfl, h⟩ := h; exact kk r w1 h)
end ZEnds
def zl_B (own : String) (idx : Nat) (y : MethodName) (bytes : ByteArray) (maxL : Nat) (ret : Option FieldType) (n : Nat) : Prop := Cond.methodLink own idx y ∈ zb_tb ∧ Cond.initialized y.cls ∈ zb_tb ∧ Cond.code y bytes maxL ret ∈ zb_tb ∧ (y.cls ≠ "java/lang/invoke/MethodHandle" ∧ y.cls ≠ "java/lang/invoke/VarHandle") ∧ (parseMethodDescriptor y.desc).map (fun d => d.parameters.length) = some n
def zl_V (own : String) (idx : Nat) (y : MethodName) (bytes : ByteArray) (maxL : Nat) (ret : Option FieldType) (n : Nat) : Prop := zl_B own idx y bytes maxL ret n ∧ Cond.instanceMethod y ∈ zb_tb ∧ Cond.selects y.cls y y ∈ zb_tb
def zl_S (own : String) (idx : Nat) (y : MethodName) (bytes : ByteArray) (maxL : Nat) (ret : Option FieldType) (n : Nat) : Prop := zl_B own idx y bytes maxL ret n ∧ Cond.static y ∈ zb_tb
def zl_I (own : String) (idx : Nat) (y : MethodName) (bytes : ByteArray) (maxL : Nat) (n : Nat) : Prop := zl_B own idx y bytes maxL none n ∧ y.name = "<init>" ∧ Cond.instanceMethod y ∈ zb_tb
def zl_N (own : String) (idx : Nat) (y : MethodName) (host : String) (bytes : ByteArray) (maxL : Nat) (ret : Option FieldType) (n : Nat) : Prop := (own, idx, y, host) ∈ zb_nest ∧ Cond.initialized y.cls ∈ zb_tb ∧ Cond.code y bytes maxL ret ∈ zb_tb ∧ (y.cls ≠ "java/lang/invoke/MethodHandle" ∧ y.cls ≠ "java/lang/invoke/VarHandle") ∧ (parseMethodDescriptor y.desc).map (fun d => d.parameters.length) = some n ∧ Cond.static y ∈ zb_tb
theorem zl_len {d : String} {n : Nat} (h : (parseMethodDescriptor d).map (fun d => d.parameters.length) = some n) : ∀ sig, parseMethodDescriptor d = some sig → n = sig.parameters.length := fun sig hs => by
  rw [hs] at h
  exact (Option.some.inj h).symm
abbrev zl_R (rmc rm : Room) (maxL kc ks : Nat) : Prop := rmc.frames + 1 ≤ rm.frames ∧ 8 + (maxL + 11) + rmc.locals ≤ rm.locals ∧ kc + rmc.cells ≤ rm.cells ∧ ks + rmc.slots ≤ rm.slots
section ZCalls
variable {G : ZG} {Y : ZY} {cc : ByteArray} {own nm : String} {ret : Option FieldType} {rm : Room} {nl : Nat} {kc ks pc pc1 : Nat} {lv : List (Nat × Value)} {st : List Value} {w : va_W}
variable {idx : Nat} {y : MethodName} {bytes : ByteArray} {maxL : Nat} {rt : Option FieldType} {n : Nat} {rmc : Room} {post : Option Value → va_W → Prop} {As rest : List Value} {b : Nat}
theorem zr_V (C : ZC G Y cc own nm ret rm nl) (hl : zl_V own idx y bytes maxL rt n) (hd : zd cc pc (.invokevirtual idx) 3 pc1) (hst : As.reverse ++ .ref b :: rest = st) (hn : As.length = n) (hro : (rest.map fun v => v.category).sum ≤ 8) (hM : ZM G y bytes maxL rt rmc (.ref b :: As) w post) (q : Nat) {ci : Nat} {fs : List Value} (hw : w[q]? = some (b, .inr (ci, fs))) {T : u_T} {N : Nat} (hc : zb_cl[ci]? = some (y.cls, T, N)) (hR : zl_R rmc rm maxL kc ks) : ZR G Y kc ks pc pc1 lv st w rest rmc.cells rmc.slots post := by
  obtain ⟨l, D, cA, B, t⟩ := G
  obtain ⟨p, e, R, s, m, args, below, meth, c, Q, nL⟩ := Y
  obtain ⟨hx, hb, hml, hnl, hown, hts, hK, hlk, hr, hnm, rfl, hB, hZ, hN, hO, hCa⟩ := C
  obtain ⟨hd, rfl⟩ := hd
  obtain ⟨⟨k1, k2, k3, k4, k5⟩, k6, k7⟩ := hl
  subst hst
  refine ⟨rfl, fun H locs ls hP hD hS hl => ⟨(Value.ref b :: As).toArray, va_runV (As := As) (rest := rest) (b := b) (C := y.cls) ⟨hx, hb, hml, hown, hts⟩ hM ⟨⟨rfl, rfl, hR.1, hR.2.1, zb_payc hts k3, List.mem_cons_self, hts _ k3, hts _ k2, k4, zl_len k5, hts _ k1⟩, hts _ k6, hts _ k7⟩ ⟨zb_blind, va_recv hK hP hc hw, fun U hU hW => ⟨rfl, zb_enter hB hK hZ hN hO hCa hP hD hS hU hW⟩⟩ rfl hn (hl.1.trans hnl) rfl (lv_room hro) hd ⟨hR.2.2.1, hR.2.2.2⟩⟩⟩
theorem zr_S (C : ZC G Y cc own nm ret rm nl) (hl : zl_S own idx y bytes maxL rt n) (hd : zd cc pc (.invokestatic idx) 3 pc1) (hst : As.reverse ++ rest = st) (hn : As.length = n) (hro : (rest.map fun v => v.category).sum ≤ 8) (hM : ZM G y bytes maxL rt rmc As w post) (hR : zl_R rmc rm maxL kc ks) : ZR G Y kc ks pc pc1 lv st w rest rmc.cells rmc.slots post := by
  obtain ⟨l, D, cA, B, t⟩ := G
  obtain ⟨p, e, R, s, m, args, below, meth, c, Q, nL⟩ := Y
  obtain ⟨hx, hb, hml, hnl, hown, hts, hK, hlk, hr, hnm, rfl, hB, hZ, hN, hO, hCa⟩ := C
  obtain ⟨hd, rfl⟩ := hd
  obtain ⟨⟨k1, k2, k3, k4, k5⟩, k6⟩ := hl
  subst hst
  refine ⟨rfl, fun H locs ls hP hD hS hl => ⟨As.toArray, va_runS (As := As) (rest := rest) ⟨hx, hb, hml, hown, hts⟩ hM ⟨⟨rfl, rfl, hR.1, hR.2.1, zb_payc hts k3, List.mem_cons_self, hts _ k3, hts _ k2, k4, zl_len k5, hts _ k1⟩, hts _ k6⟩ ⟨zb_blind, fun U hU hW => ⟨rfl, zb_enter hB hK hZ hN hO hCa hP hD hS hU hW⟩⟩ rfl hn (hl.1.trans hnl) rfl (lv_room hro) hd ⟨hR.2.2.1, hR.2.2.2⟩⟩⟩
theorem zr_I (C : ZC G Y cc own nm ret rm nl) (hl : zl_I own idx y bytes maxL n) (hd : zd cc pc (.invokespecial idx) 3 pc1) (hst : As.reverse ++ .ref b :: rest = st) (hn : As.length = n) (hro : (rest.map fun v => v.category).sum ≤ 8) (hM : ZM G y bytes maxL none rmc (.ref b :: As) w post) (hR : zl_R rmc rm maxL kc ks) : ZR G Y kc ks pc pc1 lv st w rest rmc.cells rmc.slots post := by
  obtain ⟨l, D, cA, B, t⟩ := G
  obtain ⟨p, e, R, s, m, args, below, meth, c, Q, nL⟩ := Y
  obtain ⟨hx, hb, hml, hnl, hown, hts, hK, hlk, hr, hnm, rfl, hB, hZ, hN, hO, hCa⟩ := C
  obtain ⟨hd, rfl⟩ := hd
  obtain ⟨⟨k1, k2, k3, k4, k5⟩, k6, k7⟩ := hl
  subst hst
  refine ⟨rfl, fun H locs ls hP hD hS hl => ⟨(Value.ref b :: As).toArray, va_runI (As := As) (rest := rest) (b := b) ⟨hx, hb, hml, hown, hts⟩ hM ⟨⟨rfl, rfl, hR.1, hR.2.1, zb_payc hts k3, List.mem_cons_self, hts _ k3, hts _ k2, k4, zl_len k5, hts _ k1⟩, k6, hts _ k7⟩ ⟨zb_blind, fun U hU hW => ⟨rfl, zb_enter hB hK hZ hN hO hCa hP hD hS hU hW⟩⟩ rfl hn (hl.1.trans hnl) rfl (lv_room hro) hd ⟨hR.2.2.1, hR.2.2.2⟩⟩⟩
theorem zr_N {host : String} (C : ZC G Y cc own nm ret rm nl) (hl : zl_N own idx y host bytes maxL rt n) (hd : zd cc pc (.invokestatic idx) 3 pc1) (hst : As.reverse ++ rest = st) (hn : As.length = n) (hro : (rest.map fun v => v.category).sum ≤ 8) (hM : ZM G y bytes maxL rt rmc As w post) (hR : zl_R rmc rm maxL kc ks) : ZR G Y kc ks pc pc1 lv st w rest rmc.cells rmc.slots post := by
  obtain ⟨l, D, cA, B, t⟩ := G
  obtain ⟨p, e, R, s, m, args, below, meth, c, Q, nL⟩ := Y
  obtain ⟨hx, hb, hml, hnl, hown, hts, hK, hlk, hr, hnm, rfl, hB, hZ, hN, hO, hCa⟩ := C
  obtain ⟨hd, rfl⟩ := hd
  obtain ⟨k1, k2, k3, k4, k5, k6⟩ := hl
  subst hst
  have hnw := hN _ k1
  refine ⟨rfl, fun H locs ls hP hD hS hl => ⟨As.toArray, va_runSN (host := host) (As := As) (rest := rest) ⟨hx, hb, hml, hown, hts⟩ hM ⟨⟨⟨rfl, rfl, hR.1, hR.2.1, zb_payc hts k3, List.mem_cons_self⟩, hts _ k3, hts _ k2, k4, zl_len k5, va_Nw.use rfl hnw⟩, hts _ k6, trivial⟩ ⟨zb_blind, fun U hU hW => ⟨rfl, zb_enter hB hK hZ hN hO hCa hP hD hS hU hW⟩⟩ rfl hn (hl.1.trans hnl) rfl (lv_room hro) hd ⟨hR.2.2.1, hR.2.2.2⟩⟩⟩
end ZCalls

