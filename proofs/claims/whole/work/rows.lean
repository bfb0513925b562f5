section
/-- a private method of a class that the tables say can be made, by its rows of tables_1 -/
def lw_okq (q : MethodName × Nat) : Prop := (q.1.cls ≠ "java/lang/invoke/MethodHandle" ∧ q.1.cls ≠ "java/lang/invoke/VarHandle") ∧ Cond.instantiable q.1.cls q.2 ∈ tables_1 ∧ Cond.privateMethod q.1 ∈ tables_1 ∧ Cond.instanceMethod q.1 ∈ tables_1
theorem lw_p0 : lw_okq (⟨"SameTuesday", "sheetOf", "(I)LSameTuesday$Sheet;"⟩, 7) := ⟨⟨by decide +kernel, by decide +kernel⟩, List.mem_of_getElem? (i := 19) (by decide +kernel), List.mem_of_getElem? (i := 189) (by decide +kernel), List.mem_of_getElem? (i := 190) (by decide +kernel)⟩
theorem lw_p1 : lw_okq (⟨"SameTuesday", "refusalOfCells", "(LSameTuesday$Sheet;III)I"⟩, 7) := ⟨⟨by decide +kernel, by decide +kernel⟩, List.mem_of_getElem? (i := 19) (by decide +kernel), List.mem_of_getElem? (i := 193) (by decide +kernel), List.mem_of_getElem? (i := 194) (by decide +kernel)⟩
theorem lw_p2 : lw_okq (⟨"SameTuesday", "faulty", "(I)I"⟩, 7) := ⟨⟨by decide +kernel, by decide +kernel⟩, List.mem_of_getElem? (i := 19) (by decide +kernel), List.mem_of_getElem? (i := 204) (by decide +kernel), List.mem_of_getElem? (i := 205) (by decide +kernel)⟩
theorem lw_p3 : lw_okq (⟨"SameTuesday$Text", "codeAt", "(I)I"⟩, 6) := ⟨⟨by decide +kernel, by decide +kernel⟩, List.mem_of_getElem? (i := 216) (by decide +kernel), List.mem_of_getElem? (i := 245) (by decide +kernel), List.mem_of_getElem? (i := 246) (by decide +kernel)⟩
theorem lw_p4 : lw_okq (⟨"SameTuesday$Text", "passPart", "()Z"⟩, 6) := ⟨⟨by decide +kernel, by decide +kernel⟩, List.mem_of_getElem? (i := 216) (by decide +kernel), List.mem_of_getElem? (i := 253) (by decide +kernel), List.mem_of_getElem? (i := 254) (by decide +kernel)⟩
theorem lw_p5 : lw_okq (⟨"SameTuesday$Text", "digitAt", "(I)I"⟩, 6) := ⟨⟨by decide +kernel, by decide +kernel⟩, List.mem_of_getElem? (i := 216) (by decide +kernel), List.mem_of_getElem? (i := 284) (by decide +kernel), List.mem_of_getElem? (i := 285) (by decide +kernel)⟩
theorem lw_p6 : lw_okq (⟨"SameTuesday$Town", "noteEvents", "()V"⟩, 6) := ⟨⟨by decide +kernel, by decide +kernel⟩, List.mem_of_getElem? (i := 45) (by decide +kernel), List.mem_of_getElem? (i := 400) (by decide +kernel), List.mem_of_getElem? (i := 401) (by decide +kernel)⟩
theorem lw_p7 : lw_okq (⟨"SameTuesday", "takeRow", "(IIIIZ)I"⟩, 7) := ⟨⟨by decide +kernel, by decide +kernel⟩, List.mem_of_getElem? (i := 19) (by decide +kernel), List.mem_of_getElem? (i := 482) (by decide +kernel), List.mem_of_getElem? (i := 483) (by decide +kernel)⟩
theorem lw_p8 : lw_okq (⟨"SameTuesday$Life", "endDeeds", "(I)V"⟩, 12) := ⟨⟨by decide +kernel, by decide +kernel⟩, List.mem_of_getElem? (i := 74) (by decide +kernel), List.mem_of_getElem? (i := 520) (by decide +kernel), List.mem_of_getElem? (i := 521) (by decide +kernel)⟩
theorem lw_p9 : lw_okq (⟨"SameTuesday$Life", "beginPairs", "(I)V"⟩, 12) := ⟨⟨by decide +kernel, by decide +kernel⟩, List.mem_of_getElem? (i := 74) (by decide +kernel), List.mem_of_getElem? (i := 529) (by decide +kernel), List.mem_of_getElem? (i := 530) (by decide +kernel)⟩
theorem lw_p10 : lw_okq (⟨"SameTuesday$Life", "minuteOfPair", "(I)I"⟩, 12) := ⟨⟨by decide +kernel, by decide +kernel⟩, List.mem_of_getElem? (i := 74) (by decide +kernel), List.mem_of_getElem? (i := 533) (by decide +kernel), List.mem_of_getElem? (i := 534) (by decide +kernel)⟩
theorem lw_p11 : lw_okq (⟨"SameTuesday$Life", "deedOfPair", "(I)LSameTuesday$Deed;"⟩, 12) := ⟨⟨by decide +kernel, by decide +kernel⟩, List.mem_of_getElem? (i := 74) (by decide +kernel), List.mem_of_getElem? (i := 537) (by decide +kernel), List.mem_of_getElem? (i := 538) (by decide +kernel)⟩
theorem lw_p12 : lw_okq (⟨"SameTuesday$Life", "begin", "(LSameTuesday$Deed;I)Z"⟩, 12) := ⟨⟨by decide +kernel, by decide +kernel⟩, List.mem_of_getElem? (i := 74) (by decide +kernel), List.mem_of_getElem? (i := 541) (by decide +kernel), List.mem_of_getElem? (i := 542) (by decide +kernel)⟩
theorem lw_p13 : lw_okq (⟨"SameTuesday$Life", "noteWrong", "(I)V"⟩, 12) := ⟨⟨by decide +kernel, by decide +kernel⟩, List.mem_of_getElem? (i := 74) (by decide +kernel), List.mem_of_getElem? (i := 549) (by decide +kernel), List.mem_of_getElem? (i := 550) (by decide +kernel)⟩
theorem lw_p14 : lw_okq (⟨"SameTuesday$Reach", "reckon", "()V"⟩, 5) := ⟨⟨by decide +kernel, by decide +kernel⟩, List.mem_of_getElem? (i := 118) (by decide +kernel), List.mem_of_getElem? (i := 589) (by decide +kernel), List.mem_of_getElem? (i := 590) (by decide +kernel)⟩
theorem lw_p15 : lw_okq (⟨"SameTuesday$Reach", "passHappenings", "(I)V"⟩, 5) := ⟨⟨by decide +kernel, by decide +kernel⟩, List.mem_of_getElem? (i := 118) (by decide +kernel), List.mem_of_getElem? (i := 594) (by decide +kernel), List.mem_of_getElem? (i := 595) (by decide +kernel)⟩
def lw_privs_1 : List (MethodName × Nat) := [(⟨"SameTuesday", "sheetOf", "(I)LSameTuesday$Sheet;"⟩, 7), (⟨"SameTuesday", "refusalOfCells", "(LSameTuesday$Sheet;III)I"⟩, 7), (⟨"SameTuesday", "faulty", "(I)I"⟩, 7), (⟨"SameTuesday$Text", "codeAt", "(I)I"⟩, 6), (⟨"SameTuesday$Text", "passPart", "()Z"⟩, 6), (⟨"SameTuesday$Text", "digitAt", "(I)I"⟩, 6), (⟨"SameTuesday$Town", "noteEvents", "()V"⟩, 6), (⟨"SameTuesday", "takeRow", "(IIIIZ)I"⟩, 7), (⟨"SameTuesday$Life", "endDeeds", "(I)V"⟩, 12), (⟨"SameTuesday$Life", "beginPairs", "(I)V"⟩, 12), (⟨"SameTuesday$Life", "minuteOfPair", "(I)I"⟩, 12), (⟨"SameTuesday$Life", "deedOfPair", "(I)LSameTuesday$Deed;"⟩, 12), (⟨"SameTuesday$Life", "begin", "(LSameTuesday$Deed;I)Z"⟩, 12), (⟨"SameTuesday$Life", "noteWrong", "(I)V"⟩, 12), (⟨"SameTuesday$Reach", "reckon", "()V"⟩, 5), (⟨"SameTuesday$Reach", "passHappenings", "(I)V"⟩, 5)]
theorem lw_r1 : ∀ q ∈ lw_privs_1, lw_okq q := List.forall_mem_cons.mpr ⟨lw_p0, List.forall_mem_cons.mpr ⟨lw_p1, List.forall_mem_cons.mpr ⟨lw_p2, List.forall_mem_cons.mpr ⟨lw_p3, List.forall_mem_cons.mpr ⟨lw_p4, List.forall_mem_cons.mpr ⟨lw_p5, List.forall_mem_cons.mpr ⟨lw_p6, List.forall_mem_cons.mpr ⟨lw_p7, List.forall_mem_cons.mpr ⟨lw_p8, List.forall_mem_cons.mpr ⟨lw_p9, List.forall_mem_cons.mpr ⟨lw_p10, List.forall_mem_cons.mpr ⟨lw_p11, List.forall_mem_cons.mpr ⟨lw_p12, List.forall_mem_cons.mpr ⟨lw_p13, List.forall_mem_cons.mpr ⟨lw_p14, List.forall_mem_cons.mpr ⟨lw_p15, fun _ h => absurd h List.not_mem_nil⟩⟩⟩⟩⟩⟩⟩⟩⟩⟩⟩⟩⟩⟩⟩⟩
theorem lw_p16 : lw_okq (⟨"SameTuesday$Reach", "endDeeds", "()V"⟩, 5) := ⟨⟨by decide +kernel, by decide +kernel⟩, List.mem_of_getElem? (i := 118) (by decide +kernel), List.mem_of_getElem? (i := 599) (by decide +kernel), List.mem_of_getElem? (i := 600) (by decide +kernel)⟩
theorem lw_p17 : lw_okq (⟨"SameTuesday$Reach", "beginDeeds", "(I)V"⟩, 5) := ⟨⟨by decide +kernel, by decide +kernel⟩, List.mem_of_getElem? (i := 118) (by decide +kernel), List.mem_of_getElem? (i := 608) (by decide +kernel), List.mem_of_getElem? (i := 609) (by decide +kernel)⟩
theorem lw_p18 : lw_okq (⟨"SameTuesday$Reach", "everyWorld", "()J"⟩, 5) := ⟨⟨by decide +kernel, by decide +kernel⟩, List.mem_of_getElem? (i := 118) (by decide +kernel), List.mem_of_getElem? (i := 613) (by decide +kernel), List.mem_of_getElem? (i := 614) (by decide +kernel)⟩
theorem lw_p19 : lw_okq (⟨"SameTuesday$Life", "endsWith", "(LSameTuesday$Deed;II)Z"⟩, 12) := ⟨⟨by decide +kernel, by decide +kernel⟩, List.mem_of_getElem? (i := 74) (by decide +kernel), List.mem_of_getElem? (i := 723) (by decide +kernel), List.mem_of_getElem? (i := 724) (by decide +kernel)⟩
theorem lw_p20 : lw_okq (⟨"SameTuesdayModel", "against", "(IIII)I"⟩, 34) := ⟨⟨by decide +kernel, by decide +kernel⟩, List.mem_of_getElem? (i := 851) (by decide +kernel), List.mem_of_getElem? (i := 974) (by decide +kernel), List.mem_of_getElem? (i := 975) (by decide +kernel)⟩
theorem lw_p21 : lw_okq (⟨"SameTuesdayModel", "fails", "(I)I"⟩, 34) := ⟨⟨by decide +kernel, by decide +kernel⟩, List.mem_of_getElem? (i := 851) (by decide +kernel), List.mem_of_getElem? (i := 978) (by decide +kernel), List.mem_of_getElem? (i := 979) (by decide +kernel)⟩
theorem lw_p22 : lw_okq (⟨"SameTuesdayModel", "readDay", "(I)Z"⟩, 34) := ⟨⟨by decide +kernel, by decide +kernel⟩, List.mem_of_getElem? (i := 851) (by decide +kernel), List.mem_of_getElem? (i := 982) (by decide +kernel), List.mem_of_getElem? (i := 983) (by decide +kernel)⟩
theorem lw_p23 : lw_okq (⟨"SameTuesdayModel", "isSign", "(II)Z"⟩, 34) := ⟨⟨by decide +kernel, by decide +kernel⟩, List.mem_of_getElem? (i := 851) (by decide +kernel), List.mem_of_getElem? (i := 986) (by decide +kernel), List.mem_of_getElem? (i := 987) (by decide +kernel)⟩
theorem lw_p24 : lw_okq (⟨"SameTuesdayModel", "readHappening", "(I)Z"⟩, 34) := ⟨⟨by decide +kernel, by decide +kernel⟩, List.mem_of_getElem? (i := 851) (by decide +kernel), List.mem_of_getElem? (i := 990) (by decide +kernel), List.mem_of_getElem? (i := 991) (by decide +kernel)⟩
theorem lw_p25 : lw_okq (⟨"SameTuesdayModel", "digit", "(III)I"⟩, 34) := ⟨⟨by decide +kernel, by decide +kernel⟩, List.mem_of_getElem? (i := 851) (by decide +kernel), List.mem_of_getElem? (i := 994) (by decide +kernel), List.mem_of_getElem? (i := 995) (by decide +kernel)⟩
theorem lw_p26 : lw_okq (⟨"SameTuesdayModel", "readOneDeed", "(I)Z"⟩, 34) := ⟨⟨by decide +kernel, by decide +kernel⟩, List.mem_of_getElem? (i := 851) (by decide +kernel), List.mem_of_getElem? (i := 998) (by decide +kernel), List.mem_of_getElem? (i := 999) (by decide +kernel)⟩
theorem lw_p27 : lw_okq (⟨"SameTuesdayModel", "isHappening", "(I)Z"⟩, 34) := ⟨⟨by decide +kernel, by decide +kernel⟩, List.mem_of_getElem? (i := 851) (by decide +kernel), List.mem_of_getElem? (i := 1006) (by decide +kernel), List.mem_of_getElem? (i := 1007) (by decide +kernel)⟩
theorem lw_p28 : lw_okq (⟨"SameTuesdayModel", "isDeed", "(I)Z"⟩, 34) := ⟨⟨by decide +kernel, by decide +kernel⟩, List.mem_of_getElem? (i := 851) (by decide +kernel), List.mem_of_getElem? (i := 1014) (by decide +kernel), List.mem_of_getElem? (i := 1015) (by decide +kernel)⟩
theorem lw_p29 : lw_okq (⟨"SameTuesdayModel", "layRow", "(IIII)I"⟩, 34) := ⟨⟨by decide +kernel, by decide +kernel⟩, List.mem_of_getElem? (i := 851) (by decide +kernel), List.mem_of_getElem? (i := 1033) (by decide +kernel), List.mem_of_getElem? (i := 1034) (by decide +kernel)⟩
theorem lw_p30 : lw_okq (⟨"SameTuesdayModel", "ends", "(I)I"⟩, 34) := ⟨⟨by decide +kernel, by decide +kernel⟩, List.mem_of_getElem? (i := 851) (by decide +kernel), List.mem_of_getElem? (i := 1037) (by decide +kernel), List.mem_of_getElem? (i := 1038) (by decide +kernel)⟩
theorem lw_p31 : lw_okq (⟨"SameTuesdayModel", "goTo", "(II)I"⟩, 34) := ⟨⟨by decide +kernel, by decide +kernel⟩, List.mem_of_getElem? (i := 851) (by decide +kernel), List.mem_of_getElem? (i := 1041) (by decide +kernel), List.mem_of_getElem? (i := 1042) (by decide +kernel)⟩
def lw_privs_2 : List (MethodName × Nat) := [(⟨"SameTuesday$Reach", "endDeeds", "()V"⟩, 5), (⟨"SameTuesday$Reach", "beginDeeds", "(I)V"⟩, 5), (⟨"SameTuesday$Reach", "everyWorld", "()J"⟩, 5), (⟨"SameTuesday$Life", "endsWith", "(LSameTuesday$Deed;II)Z"⟩, 12), (⟨"SameTuesdayModel", "against", "(IIII)I"⟩, 34), (⟨"SameTuesdayModel", "fails", "(I)I"⟩, 34), (⟨"SameTuesdayModel", "readDay", "(I)Z"⟩, 34), (⟨"SameTuesdayModel", "isSign", "(II)Z"⟩, 34), (⟨"SameTuesdayModel", "readHappening", "(I)Z"⟩, 34), (⟨"SameTuesdayModel", "digit", "(III)I"⟩, 34), (⟨"SameTuesdayModel", "readOneDeed", "(I)Z"⟩, 34), (⟨"SameTuesdayModel", "isHappening", "(I)Z"⟩, 34), (⟨"SameTuesdayModel", "isDeed", "(I)Z"⟩, 34), (⟨"SameTuesdayModel", "layRow", "(IIII)I"⟩, 34), (⟨"SameTuesdayModel", "ends", "(I)I"⟩, 34), (⟨"SameTuesdayModel", "goTo", "(II)I"⟩, 34)]
theorem lw_r2 : ∀ q ∈ lw_privs_2, lw_okq q := List.forall_mem_cons.mpr ⟨lw_p16, List.forall_mem_cons.mpr ⟨lw_p17, List.forall_mem_cons.mpr ⟨lw_p18, List.forall_mem_cons.mpr ⟨lw_p19, List.forall_mem_cons.mpr ⟨lw_p20, List.forall_mem_cons.mpr ⟨lw_p21, List.forall_mem_cons.mpr ⟨lw_p22, List.forall_mem_cons.mpr ⟨lw_p23, List.forall_mem_cons.mpr ⟨lw_p24, List.forall_mem_cons.mpr ⟨lw_p25, List.forall_mem_cons.mpr ⟨lw_p26, List.forall_mem_cons.mpr ⟨lw_p27, List.forall_mem_cons.mpr ⟨lw_p28, List.forall_mem_cons.mpr ⟨lw_p29, List.forall_mem_cons.mpr ⟨lw_p30, List.forall_mem_cons.mpr ⟨lw_p31, fun _ h => absurd h List.not_mem_nil⟩⟩⟩⟩⟩⟩⟩⟩⟩⟩⟩⟩⟩⟩⟩⟩
theorem lw_p32 : lw_okq (⟨"SameTuesdayModel", "happen", "(III)I"⟩, 34) := ⟨⟨by decide +kernel, by decide +kernel⟩, List.mem_of_getElem? (i := 851) (by decide +kernel), List.mem_of_getElem? (i := 1045) (by decide +kernel), List.mem_of_getElem? (i := 1046) (by decide +kernel)⟩
theorem lw_p33 : lw_okq (⟨"SameTuesdayModel", "done", "(II)I"⟩, 34) := ⟨⟨by decide +kernel, by decide +kernel⟩, List.mem_of_getElem? (i := 851) (by decide +kernel), List.mem_of_getElem? (i := 1052) (by decide +kernel), List.mem_of_getElem? (i := 1053) (by decide +kernel)⟩
theorem lw_p34 : lw_okq (⟨"SameTuesdayModel", "pairIn", "(I)I"⟩, 34) := ⟨⟨by decide +kernel, by decide +kernel⟩, List.mem_of_getElem? (i := 851) (by decide +kernel), List.mem_of_getElem? (i := 1056) (by decide +kernel), List.mem_of_getElem? (i := 1057) (by decide +kernel)⟩
theorem lw_p35 : lw_okq (⟨"SameTuesdayModel", "mayBegin", "(III)Z"⟩, 34) := ⟨⟨by decide +kernel, by decide +kernel⟩, List.mem_of_getElem? (i := 851) (by decide +kernel), List.mem_of_getElem? (i := 1060) (by decide +kernel), List.mem_of_getElem? (i := 1061) (by decide +kernel)⟩
theorem lw_p36 : lw_okq (⟨"SameTuesdayModel", "goStates", "(I)V"⟩, 34) := ⟨⟨by decide +kernel, by decide +kernel⟩, List.mem_of_getElem? (i := 851) (by decide +kernel), List.mem_of_getElem? (i := 1079) (by decide +kernel), List.mem_of_getElem? (i := 1080) (by decide +kernel)⟩
theorem lw_p37 : lw_okq (⟨"SameTuesdayModel", "beginStates", "()V"⟩, 34) := ⟨⟨by decide +kernel, by decide +kernel⟩, List.mem_of_getElem? (i := 851) (by decide +kernel), List.mem_of_getElem? (i := 1083) (by decide +kernel), List.mem_of_getElem? (i := 1084) (by decide +kernel)⟩
theorem lw_p38 : lw_okq (⟨"SameTuesdayModel", "goMinute", "(I)V"⟩, 34) := ⟨⟨by decide +kernel, by decide +kernel⟩, List.mem_of_getElem? (i := 851) (by decide +kernel), List.mem_of_getElem? (i := 1087) (by decide +kernel), List.mem_of_getElem? (i := 1088) (by decide +kernel)⟩
theorem lw_p39 : lw_okq (⟨"SameTuesdayModel", "happenIdle", "(I)V"⟩, 34) := ⟨⟨by decide +kernel, by decide +kernel⟩, List.mem_of_getElem? (i := 851) (by decide +kernel), List.mem_of_getElem? (i := 1091) (by decide +kernel), List.mem_of_getElem? (i := 1092) (by decide +kernel)⟩
theorem lw_p40 : lw_okq (⟨"SameTuesdayModel", "happenBusy", "(II)V"⟩, 34) := ⟨⟨by decide +kernel, by decide +kernel⟩, List.mem_of_getElem? (i := 851) (by decide +kernel), List.mem_of_getElem? (i := 1095) (by decide +kernel), List.mem_of_getElem? (i := 1096) (by decide +kernel)⟩
theorem lw_p41 : lw_okq (⟨"SameTuesdayModel", "endDeeds", "(I)V"⟩, 34) := ⟨⟨by decide +kernel, by decide +kernel⟩, List.mem_of_getElem? (i := 851) (by decide +kernel), List.mem_of_getElem? (i := 1099) (by decide +kernel), List.mem_of_getElem? (i := 1100) (by decide +kernel)⟩
theorem lw_p42 : lw_okq (⟨"SameTuesdayModel", "beginDeeds", "(I)V"⟩, 34) := ⟨⟨by decide +kernel, by decide +kernel⟩, List.mem_of_getElem? (i := 851) (by decide +kernel), List.mem_of_getElem? (i := 1106) (by decide +kernel), List.mem_of_getElem? (i := 1107) (by decide +kernel)⟩
theorem lw_p43 : lw_okq (⟨"SameTuesdayModel", "layCanBe", "()V"⟩, 34) := ⟨⟨by decide +kernel, by decide +kernel⟩, List.mem_of_getElem? (i := 851) (by decide +kernel), List.mem_of_getElem? (i := 1110) (by decide +kernel), List.mem_of_getElem? (i := 1111) (by decide +kernel)⟩
theorem lw_p44 : lw_okq (⟨"SameTuesdayModel", "isWithinOne", "(I)Z"⟩, 34) := ⟨⟨by decide +kernel, by decide +kernel⟩, List.mem_of_getElem? (i := 851) (by decide +kernel), List.mem_of_getElem? (i := 1118) (by decide +kernel), List.mem_of_getElem? (i := 1119) (by decide +kernel)⟩
theorem lw_p45 : lw_okq (⟨"SameTuesdayModel", "isLaw", "(I)Z"⟩, 34) := ⟨⟨by decide +kernel, by decide +kernel⟩, List.mem_of_getElem? (i := 851) (by decide +kernel), List.mem_of_getElem? (i := 1138) (by decide +kernel), List.mem_of_getElem? (i := 1139) (by decide +kernel)⟩
theorem lw_p46 : lw_okq (⟨"SameTuesdayModel", "parted", "(I)I"⟩, 34) := ⟨⟨by decide +kernel, by decide +kernel⟩, List.mem_of_getElem? (i := 851) (by decide +kernel), List.mem_of_getElem? (i := 1153) (by decide +kernel), List.mem_of_getElem? (i := 1154) (by decide +kernel)⟩
theorem lw_p47 : lw_okq (⟨"SameTuesdayModel", "lost", "(I)J"⟩, 34) := ⟨⟨by decide +kernel, by decide +kernel⟩, List.mem_of_getElem? (i := 851) (by decide +kernel), List.mem_of_getElem? (i := 1185) (by decide +kernel), List.mem_of_getElem? (i := 1186) (by decide +kernel)⟩
def lw_privs_3 : List (MethodName × Nat) := [(⟨"SameTuesdayModel", "happen", "(III)I"⟩, 34), (⟨"SameTuesdayModel", "done", "(II)I"⟩, 34), (⟨"SameTuesdayModel", "pairIn", "(I)I"⟩, 34), (⟨"SameTuesdayModel", "mayBegin", "(III)Z"⟩, 34), (⟨"SameTuesdayModel", "goStates", "(I)V"⟩, 34), (⟨"SameTuesdayModel", "beginStates", "()V"⟩, 34), (⟨"SameTuesdayModel", "goMinute", "(I)V"⟩, 34), (⟨"SameTuesdayModel", "happenIdle", "(I)V"⟩, 34), (⟨"SameTuesdayModel", "happenBusy", "(II)V"⟩, 34), (⟨"SameTuesdayModel", "endDeeds", "(I)V"⟩, 34), (⟨"SameTuesdayModel", "beginDeeds", "(I)V"⟩, 34), (⟨"SameTuesdayModel", "layCanBe", "()V"⟩, 34), (⟨"SameTuesdayModel", "isWithinOne", "(I)Z"⟩, 34), (⟨"SameTuesdayModel", "isLaw", "(I)Z"⟩, 34), (⟨"SameTuesdayModel", "parted", "(I)I"⟩, 34), (⟨"SameTuesdayModel", "lost", "(I)J"⟩, 34)]
theorem lw_r3 : ∀ q ∈ lw_privs_3, lw_okq q := List.forall_mem_cons.mpr ⟨lw_p32, List.forall_mem_cons.mpr ⟨lw_p33, List.forall_mem_cons.mpr ⟨lw_p34, List.forall_mem_cons.mpr ⟨lw_p35, List.forall_mem_cons.mpr ⟨lw_p36, List.forall_mem_cons.mpr ⟨lw_p37, List.forall_mem_cons.mpr ⟨lw_p38, List.forall_mem_cons.mpr ⟨lw_p39, List.forall_mem_cons.mpr ⟨lw_p40, List.forall_mem_cons.mpr ⟨lw_p41, List.forall_mem_cons.mpr ⟨lw_p42, List.forall_mem_cons.mpr ⟨lw_p43, List.forall_mem_cons.mpr ⟨lw_p44, List.forall_mem_cons.mpr ⟨lw_p45, List.forall_mem_cons.mpr ⟨lw_p46, List.forall_mem_cons.mpr ⟨lw_p47, fun _ h => absurd h List.not_mem_nil⟩⟩⟩⟩⟩⟩⟩⟩⟩⟩⟩⟩⟩⟩⟩⟩
theorem lw_p48 : lw_okq (⟨"SameTuesdayModel", "begins", "(I)V"⟩, 34) := ⟨⟨by decide +kernel, by decide +kernel⟩, List.mem_of_getElem? (i := 851) (by decide +kernel), List.mem_of_getElem? (i := 1197) (by decide +kernel), List.mem_of_getElem? (i := 1198) (by decide +kernel)⟩
def lw_privs_4 : List (MethodName × Nat) := [(⟨"SameTuesdayModel", "begins", "(I)V"⟩, 34)]
theorem lw_r4 : ∀ q ∈ lw_privs_4, lw_okq q := List.forall_mem_cons.mpr ⟨lw_p48, fun _ h => absurd h List.not_mem_nil⟩
def lw_privs : List (MethodName × Nat) := lw_privs_1 ++ (lw_privs_2 ++ (lw_privs_3 ++ (lw_privs_4)))
def lw_tbl : List Cond := k2_sels lw_privs ++ tables_1
theorem lw_privs_ok : ∀ q ∈ lw_privs, lw_okq q := by
  show ∀ q ∈ lw_privs_1 ++ (lw_privs_2 ++ (lw_privs_3 ++ (lw_privs_4))), lw_okq q
  exact List.forall_mem_append.mpr ⟨lw_r1, List.forall_mem_append.mpr ⟨lw_r2, List.forall_mem_append.mpr ⟨lw_r3, lw_r4⟩⟩⟩
def zb_tb : List Cond := lw_tbl.filter goodWord
theorem zb_mem {w : Cond} (i : Nat) (h : lw_tbl[i]? = some w) (g : goodWord w = true) : w ∈ zb_tb := List.mem_filter.mpr ⟨List.mem_of_getElem? h, g⟩
def zF_Cap : u_T := fun k => match k with
  | 0 => ("SameTuesday$Happening", "number", "I", true)
  | 1 => ("SameTuesday$Happening", "need", "I", true)
  | 2 => ("SameTuesday$Happening", "fact", "I", true)
  | 3 => ("SameTuesday$Happening", "met", "J", true)
  | 4 => ("SameTuesday$Happening", "so", "J", true)
  | _ => ("SameTuesday$Happening", "minute", "I", false)
def zt_Cap : Nat → FieldType := fun k => match k with
  | 0 => .int
  | 1 => .int
  | 2 => .int
  | 3 => .long
  | 4 => .long
  | _ => .int
theorem zn_Cap : ∀ a, a < 6 → ∀ b, b < 6 → a ≠ b → (zF_Cap a).2.1 ≠ (zF_Cap b).2.1 := by decide +kernel
theorem zk_Cap : ∀ k, k < 6 → parseFieldDescriptor (zF_Cap k).2.2.1 = some (zt_Cap k) := by decide +kernel
theorem zi0_Cap : ∀ k, k < 6 → u_lay "SameTuesday$Caprice" zF_Cap k ∈ zb_tb := fun k hk => match k, hk with
  | 0, _ => zb_mem 392 rfl rfl
  | 1, _ => zb_mem 393 rfl rfl
  | 2, _ => zb_mem 394 rfl rfl
  | 3, _ => zb_mem 395 rfl rfl
  | 4, _ => zb_mem 396 rfl rfl
  | 5, _ => zb_mem 397 rfl rfl
  | k + 6, hk => absurd hk (by omega)
theorem zi_Cap : ∀ w ∈ u_ws "SameTuesday$Caprice" zF_Cap 6, w ∈ zb_tb := fun w hw => by
  obtain ⟨k, hk, rfl⟩ := List.mem_map.mp hw
  exact zi0_Cap k (List.mem_range.mp hk)
def zF_Deed : u_T := fun k => match k with
  | 0 => ("SameTuesday$Deed", "need", "I", true)
  | 1 => ("SameTuesday$Deed", "fact", "I", true)
  | 2 => ("SameTuesday$Deed", "undoes", "I", true)
  | 3 => ("SameTuesday$Deed", "lasts", "I", true)
  | _ => ("SameTuesday$Deed", "met", "J", true)
def zt_Deed : Nat → FieldType := fun k => match k with
  | 0 => .int
  | 1 => .int
  | 2 => .int
  | 3 => .int
  | _ => .long
theorem zn_Deed : ∀ a, a < 5 → ∀ b, b < 5 → a ≠ b → (zF_Deed a).2.1 ≠ (zF_Deed b).2.1 := by decide +kernel
theorem zk_Deed : ∀ k, k < 5 → parseFieldDescriptor (zF_Deed k).2.2.1 = some (zt_Deed k) := by decide +kernel
theorem zi0_Deed : ∀ k, k < 5 → u_lay "SameTuesday$Deed" zF_Deed k ∈ zb_tb := fun k hk => match k, hk with
  | 0, _ => zb_mem 437 rfl rfl
  | 1, _ => zb_mem 439 rfl rfl
  | 2, _ => zb_mem 441 rfl rfl
  | 3, _ => zb_mem 443 rfl rfl
  | 4, _ => zb_mem 445 rfl rfl
  | k + 5, hk => absurd hk (by omega)
theorem zi_Deed : ∀ w ∈ u_ws "SameTuesday$Deed" zF_Deed 5, w ∈ zb_tb := fun w hw => by
  obtain ⟨k, hk, rfl⟩ := List.mem_map.mp hw
  exact zi0_Deed k (List.mem_range.mp hk)
def zF_Hap : u_T := fun k => match k with
  | 0 => ("SameTuesday$Happening", "number", "I", true)
  | 1 => ("SameTuesday$Happening", "need", "I", true)
  | 2 => ("SameTuesday$Happening", "fact", "I", true)
  | 3 => ("SameTuesday$Happening", "met", "J", true)
  | 4 => ("SameTuesday$Happening", "so", "J", true)
  | _ => ("SameTuesday$Happening", "minute", "I", false)
def zt_Hap : Nat → FieldType := fun k => match k with
  | 0 => .int
  | 1 => .int
  | 2 => .int
  | 3 => .long
  | 4 => .long
  | _ => .int
theorem zn_Hap : ∀ a, a < 6 → ∀ b, b < 6 → a ≠ b → (zF_Hap a).2.1 ≠ (zF_Hap b).2.1 := by decide +kernel
theorem zk_Hap : ∀ k, k < 6 → parseFieldDescriptor (zF_Hap k).2.2.1 = some (zt_Hap k) := by decide +kernel
theorem zi0_Hap : ∀ k, k < 6 → u_lay "SameTuesday$Happening" zF_Hap k ∈ zb_tb := fun k hk => match k, hk with
  | 0, _ => zb_mem 402 rfl rfl
  | 1, _ => zb_mem 403 rfl rfl
  | 2, _ => zb_mem 404 rfl rfl
  | 3, _ => zb_mem 405 rfl rfl
  | 4, _ => zb_mem 406 rfl rfl
  | 5, _ => zb_mem 407 rfl rfl
  | k + 6, hk => absurd hk (by omega)
theorem zi_Hap : ∀ w ∈ u_ws "SameTuesday$Happening" zF_Hap 6, w ∈ zb_tb := fun w hw => by
  obtain ⟨k, hk, rfl⟩ := List.mem_map.mp hw
  exact zi0_Hap k (List.mem_range.mp hk)
def zF_Law : u_T := fun k => match k with
  | 0 => ("SameTuesday$Law", "days", "[I", true)
  | _ => ("SameTuesday$Law", "count", "I", false)
def zt_Law : Nat → FieldType := fun k => match k with
  | 0 => .array .int
  | _ => .int
theorem zn_Law : ∀ a, a < 2 → ∀ b, b < 2 → a ≠ b → (zF_Law a).2.1 ≠ (zF_Law b).2.1 := by decide +kernel
theorem zk_Law : ∀ k, k < 2 → parseFieldDescriptor (zF_Law k).2.2.1 = some (zt_Law k) := by decide +kernel
theorem zi0_Law : ∀ k, k < 2 → u_lay "SameTuesday$Law" zF_Law k ∈ zb_tb := fun k hk => match k, hk with
  | 0, _ => zb_mem 196 rfl rfl
  | 1, _ => zb_mem 198 rfl rfl
  | k + 2, hk => absurd hk (by omega)
theorem zi_Law : ∀ w ∈ u_ws "SameTuesday$Law" zF_Law 2, w ∈ zb_tb := fun w hw => by
  obtain ⟨k, hk, rfl⟩ := List.mem_map.mp hw
  exact zi0_Law k (List.mem_range.mp hk)
def zF_Life : u_T := fun k => match k with
  | 0 => ("SameTuesday$Life", "town", "LSameTuesday$Town;", true)
  | 1 => ("SameTuesday$Life", "pairMinutes", "[I", true)
  | 2 => ("SameTuesday$Life", "pairDeeds", "[I", true)
  | 3 => ("SameTuesday$Life", "pairs", "I", false)
  | 4 => ("SameTuesday$Life", "aloneAt", "[J", true)
  | 5 => ("SameTuesday$Life", "world", "J", false)
  | 6 => ("SameTuesday$Life", "going", "LSameTuesday$Deed;", false)
  | 7 => ("SameTuesday$Life", "goingEnds", "I", false)
  | 8 => ("SameTuesday$Life", "nextPair", "I", false)
  | 9 => ("SameTuesday$Life", "firstWrong", "I", false)
  | 10 => ("SameTuesday$Life", "other", "LSameTuesday$Deed;", false)
  | _ => ("SameTuesday$Life", "otherEnds", "I", false)
def zt_Life : Nat → FieldType := fun k => match k with
  | 0 => .object "SameTuesday$Town"
  | 1 => .array .int
  | 2 => .array .int
  | 3 => .int
  | 4 => .array .long
  | 5 => .long
  | 6 => .object "SameTuesday$Deed"
  | 7 => .int
  | 8 => .int
  | 9 => .int
  | 10 => .object "SameTuesday$Deed"
  | _ => .int
theorem zn_Life : ∀ a, a < 12 → ∀ b, b < 12 → a ≠ b → (zF_Life a).2.1 ≠ (zF_Life b).2.1 := by decide +kernel
theorem zk_Life : ∀ k, k < 12 → parseFieldDescriptor (zF_Life k).2.2.1 = some (zt_Life k) := by decide +kernel
theorem zi0_Life : ∀ k, k < 12 → u_lay "SameTuesday$Life" zF_Life k ∈ zb_tb := fun k hk => match k, hk with
  | 0, _ => zb_mem 140 rfl rfl
  | 1, _ => zb_mem 142 rfl rfl
  | 2, _ => zb_mem 144 rfl rfl
  | 3, _ => zb_mem 146 rfl rfl
  | 4, _ => zb_mem 148 rfl rfl
  | 5, _ => zb_mem 150 rfl rfl
  | 6, _ => zb_mem 152 rfl rfl
  | 7, _ => zb_mem 154 rfl rfl
  | 8, _ => zb_mem 156 rfl rfl
  | 9, _ => zb_mem 158 rfl rfl
  | 10, _ => zb_mem 160 rfl rfl
  | 11, _ => zb_mem 162 rfl rfl
  | k + 12, hk => absurd hk (by omega)
theorem zi_Life : ∀ w ∈ u_ws "SameTuesday$Life" zF_Life 12, w ∈ zb_tb := fun w hw => by
  obtain ⟨k, hk, rfl⟩ := List.mem_map.mp hw
  exact zi0_Life k (List.mem_range.mp hk)
def zF_Mis : u_T := fun k => match k with
  | 0 => ("SameTuesday$Happening", "number", "I", true)
  | 1 => ("SameTuesday$Happening", "need", "I", true)
  | 2 => ("SameTuesday$Happening", "fact", "I", true)
  | 3 => ("SameTuesday$Happening", "met", "J", true)
  | 4 => ("SameTuesday$Happening", "so", "J", true)
  | _ => ("SameTuesday$Happening", "minute", "I", false)
def zt_Mis : Nat → FieldType := fun k => match k with
  | 0 => .int
  | 1 => .int
  | 2 => .int
  | 3 => .long
  | 4 => .long
  | _ => .int
theorem zn_Mis : ∀ a, a < 6 → ∀ b, b < 6 → a ≠ b → (zF_Mis a).2.1 ≠ (zF_Mis b).2.1 := by decide +kernel
theorem zk_Mis : ∀ k, k < 6 → parseFieldDescriptor (zF_Mis k).2.2.1 = some (zt_Mis k) := by decide +kernel
theorem zi0_Mis : ∀ k, k < 6 → u_lay "SameTuesday$Mishap" zF_Mis k ∈ zb_tb := fun k hk => match k, hk with
  | 0, _ => zb_mem 373 rfl rfl
  | 1, _ => zb_mem 375 rfl rfl
  | 2, _ => zb_mem 377 rfl rfl
  | 3, _ => zb_mem 379 rfl rfl
  | 4, _ => zb_mem 381 rfl rfl
  | 5, _ => zb_mem 383 rfl rfl
  | k + 6, hk => absurd hk (by omega)
theorem zi_Mis : ∀ w ∈ u_ws "SameTuesday$Mishap" zF_Mis 6, w ∈ zb_tb := fun w hw => by
  obtain ⟨k, hk, rfl⟩ := List.mem_map.mp hw
  exact zi0_Mis k (List.mem_range.mp hk)
def zF_Rch : u_T := fun k => match k with
  | 0 => ("SameTuesday$Reach", "town", "LSameTuesday$Town;", true)
  | 1 => ("SameTuesday$Reach", "worlds", "[J", true)
  | 2 => ("SameTuesday$Reach", "going", "[J", true)
  | 3 => ("SameTuesday$Reach", "free", "J", false)
  | _ => ("SameTuesday$Reach", "spoilt", "Z", false)
def zt_Rch : Nat → FieldType := fun k => match k with
  | 0 => .object "SameTuesday$Town"
  | 1 => .array .long
  | 2 => .array .long
  | 3 => .long
  | _ => .boolean
theorem zn_Rch : ∀ a, a < 5 → ∀ b, b < 5 → a ≠ b → (zF_Rch a).2.1 ≠ (zF_Rch b).2.1 := by decide +kernel
theorem zk_Rch : ∀ k, k < 5 → parseFieldDescriptor (zF_Rch k).2.2.1 = some (zt_Rch k) := by decide +kernel
theorem zi0_Rch : ∀ k, k < 5 → u_lay "SameTuesday$Reach" zF_Rch k ∈ zb_tb := fun k hk => match k, hk with
  | 0, _ => zb_mem 177 rfl rfl
  | 1, _ => zb_mem 179 rfl rfl
  | 2, _ => zb_mem 181 rfl rfl
  | 3, _ => zb_mem 183 rfl rfl
  | 4, _ => zb_mem 185 rfl rfl
  | k + 5, hk => absurd hk (by omega)
theorem zi_Rch : ∀ w ∈ u_ws "SameTuesday$Reach" zF_Rch 5, w ∈ zb_tb := fun w hw => by
  obtain ⟨k, hk, rfl⟩ := List.mem_map.mp hw
  exact zi0_Rch k (List.mem_range.mp hk)
def zF_Sht : u_T := fun k => match k with
  | 0 => ("SameTuesday$Sheet", "cells", "[I", true)
  | 1 => ("SameTuesday$Sheet", "lane", "I", false)
  | _ => ("SameTuesday$Sheet", "size", "I", false)
def zt_Sht : Nat → FieldType := fun k => match k with
  | 0 => .array .int
  | 1 => .int
  | _ => .int
theorem zn_Sht : ∀ a, a < 3 → ∀ b, b < 3 → a ≠ b → (zF_Sht a).2.1 ≠ (zF_Sht b).2.1 := by decide +kernel
theorem zk_Sht : ∀ k, k < 3 → parseFieldDescriptor (zF_Sht k).2.2.1 = some (zt_Sht k) := by decide +kernel
theorem zi0_Sht : ∀ k, k < 3 → u_lay "SameTuesday$Sheet" zF_Sht k ∈ zb_tb := fun k hk => match k, hk with
  | 0, _ => zb_mem 85 rfl rfl
  | 1, _ => zb_mem 87 rfl rfl
  | 2, _ => zb_mem 89 rfl rfl
  | k + 3, hk => absurd hk (by omega)
theorem zi_Sht : ∀ w ∈ u_ws "SameTuesday$Sheet" zF_Sht 3, w ∈ zb_tb := fun w hw => by
  obtain ⟨k, hk, rfl⟩ := List.mem_map.mp hw
  exact zi0_Sht k (List.mem_range.mp hk)
def zF_Txt : u_T := fun k => match k with
  | 0 => ("SameTuesday$Text", "sheet", "LSameTuesday$Sheet;", true)
  | 1 => ("SameTuesday$Text", "start", "I", true)
  | 2 => ("SameTuesday$Text", "length", "I", true)
  | 3 => ("SameTuesday$Text", "place", "I", false)
  | 4 => ("SameTuesday$Text", "happenings", "I", false)
  | _ => ("SameTuesday$Text", "deeds", "I", false)
def zt_Txt : Nat → FieldType := fun k => match k with
  | 0 => .object "SameTuesday$Sheet"
  | 1 => .int
  | 2 => .int
  | 3 => .int
  | 4 => .int
  | _ => .int
theorem zn_Txt : ∀ a, a < 6 → ∀ b, b < 6 → a ≠ b → (zF_Txt a).2.1 ≠ (zF_Txt b).2.1 := by decide +kernel
theorem zk_Txt : ∀ k, k < 6 → parseFieldDescriptor (zF_Txt k).2.2.1 = some (zt_Txt k) := by decide +kernel
theorem zi0_Txt : ∀ k, k < 6 → u_lay "SameTuesday$Text" zF_Txt k ∈ zb_tb := fun k hk => match k, hk with
  | 0, _ => zb_mem 276 rfl rfl
  | 1, _ => zb_mem 278 rfl rfl
  | 2, _ => zb_mem 280 rfl rfl
  | 3, _ => zb_mem 282 rfl rfl
  | 4, _ => zb_mem 284 rfl rfl
  | 5, _ => zb_mem 286 rfl rfl
  | k + 6, hk => absurd hk (by omega)
theorem zi_Txt : ∀ w ∈ u_ws "SameTuesday$Text" zF_Txt 6, w ∈ zb_tb := fun w hw => by
  obtain ⟨k, hk, rfl⟩ := List.mem_map.mp hw
  exact zi0_Txt k (List.mem_range.mp hk)
def zF_Twn : u_T := fun k => match k with
  | 0 => ("SameTuesday$Town", "happenings", "[LSameTuesday$Happening;", true)
  | 1 => ("SameTuesday$Town", "deeds", "[LSameTuesday$Deed;", true)
  | 2 => ("SameTuesday$Town", "happeningCount", "I", false)
  | 3 => ("SameTuesday$Town", "deedCount", "I", false)
  | 4 => ("SameTuesday$Town", "minuteCount", "I", false)
  | _ => ("SameTuesday$Town", "eventful", "J", false)
def zt_Twn : Nat → FieldType := fun k => match k with
  | 0 => .array (.object "SameTuesday$Happening")
  | 1 => .array (.object "SameTuesday$Deed")
  | 2 => .int
  | 3 => .int
  | 4 => .int
  | _ => .long
theorem zn_Twn : ∀ a, a < 6 → ∀ b, b < 6 → a ≠ b → (zF_Twn a).2.1 ≠ (zF_Twn b).2.1 := by decide +kernel
theorem zk_Twn : ∀ k, k < 6 → parseFieldDescriptor (zF_Twn k).2.2.1 = some (zt_Twn k) := by decide +kernel
theorem zi0_Twn : ∀ k, k < 6 → u_lay "SameTuesday$Town" zF_Twn k ∈ zb_tb := fun k hk => match k, hk with
  | 0, _ => zb_mem 109 rfl rfl
  | 1, _ => zb_mem 111 rfl rfl
  | 2, _ => zb_mem 113 rfl rfl
  | 3, _ => zb_mem 115 rfl rfl
  | 4, _ => zb_mem 117 rfl rfl
  | 5, _ => zb_mem 119 rfl rfl
  | k + 6, hk => absurd hk (by omega)
theorem zi_Twn : ∀ w ∈ u_ws "SameTuesday$Town" zF_Twn 6, w ∈ zb_tb := fun w hw => by
  obtain ⟨k, hk, rfl⟩ := List.mem_map.mp hw
  exact zi0_Twn k (List.mem_range.mp hk)
def zF_Trc : u_T := fun k => match k with
  | _ => ("SameTuesday$Trace", "left", "I", false)
def zt_Trc : Nat → FieldType := fun k => match k with
  | _ => .int
theorem zn_Trc : ∀ a, a < 1 → ∀ b, b < 1 → a ≠ b → (zF_Trc a).2.1 ≠ (zF_Trc b).2.1 := by decide +kernel
theorem zk_Trc : ∀ k, k < 1 → parseFieldDescriptor (zF_Trc k).2.2.1 = some (zt_Trc k) := by decide +kernel
theorem zi0_Trc : ∀ k, k < 1 → u_lay "SameTuesday$Trace" zF_Trc k ∈ zb_tb := fun k hk => match k, hk with
  | 0, _ => zb_mem 208 rfl rfl
  | k + 1, hk => absurd hk (by omega)
theorem zi_Trc : ∀ w ∈ u_ws "SameTuesday$Trace" zF_Trc 1, w ∈ zb_tb := fun w hw => by
  obtain ⟨k, hk, rfl⟩ := List.mem_map.mp hw
  exact zi0_Trc k (List.mem_range.mp hk)
def zF_Tue : u_T := fun k => match k with
  | 0 => ("SameTuesday", "sheets", "[LSameTuesday$Sheet;", true)
  | 1 => ("SameTuesday", "town", "LSameTuesday$Town;", true)
  | 2 => ("SameTuesday", "life", "LSameTuesday$Life;", true)
  | 3 => ("SameTuesday", "reach", "LSameTuesday$Reach;", true)
  | 4 => ("SameTuesday", "law", "LSameTuesday$Law;", true)
  | 5 => ("SameTuesday", "traces", "LSameTuesday$Trace;", true)
  | _ => ("SameTuesday", "lastFault", "I", false)
def zt_Tue : Nat → FieldType := fun k => match k with
  | 0 => .array (.object "SameTuesday$Sheet")
  | 1 => .object "SameTuesday$Town"
  | 2 => .object "SameTuesday$Life"
  | 3 => .object "SameTuesday$Reach"
  | 4 => .object "SameTuesday$Law"
  | 5 => .object "SameTuesday$Trace"
  | _ => .int
theorem zn_Tue : ∀ a, a < 7 → ∀ b, b < 7 → a ≠ b → (zF_Tue a).2.1 ≠ (zF_Tue b).2.1 := by decide +kernel
theorem zk_Tue : ∀ k, k < 7 → parseFieldDescriptor (zF_Tue k).2.2.1 = some (zt_Tue k) := by decide +kernel
theorem zi0_Tue : ∀ k, k < 7 → u_lay "SameTuesday" zF_Tue k ∈ zb_tb := fun k hk => match k, hk with
  | 0, _ => zb_mem 218 rfl rfl
  | 1, _ => zb_mem 220 rfl rfl
  | 2, _ => zb_mem 222 rfl rfl
  | 3, _ => zb_mem 224 rfl rfl
  | 4, _ => zb_mem 226 rfl rfl
  | 5, _ => zb_mem 228 rfl rfl
  | 6, _ => zb_mem 230 rfl rfl
  | k + 7, hk => absurd hk (by omega)
theorem zi_Tue : ∀ w ∈ u_ws "SameTuesday" zF_Tue 7, w ∈ zb_tb := fun w hw => by
  obtain ⟨k, hk, rfl⟩ := List.mem_map.mp hw
  exact zi0_Tue k (List.mem_range.mp hk)
def zF_Mod : u_T := fun k => match k with
  | 0 => ("SameTuesdayModel", "fault", "I", false)
  | 1 => ("SameTuesdayModel", "trace", "I", false)
  | 2 => ("SameTuesdayModel", "sorts", "[I", true)
  | 3 => ("SameTuesdayModel", "sheetLong", "[I", true)
  | 4 => ("SameTuesdayModel", "cells", "[I", true)
  | 5 => ("SameTuesdayModel", "happenings", "I", false)
  | 6 => ("SameTuesdayModel", "deeds", "I", false)
  | 7 => ("SameTuesdayModel", "minutes", "I", false)
  | 8 => ("SameTuesdayModel", "kind", "[I", true)
  | 9 => ("SameTuesdayModel", "minuteOf", "[I", true)
  | 10 => ("SameTuesdayModel", "needOf", "[I", true)
  | 11 => ("SameTuesdayModel", "factOf", "[I", true)
  | 12 => ("SameTuesdayModel", "deedNeed", "[I", true)
  | 13 => ("SameTuesdayModel", "deedFact", "[I", true)
  | 14 => ("SameTuesdayModel", "deedUndoes", "[I", true)
  | 15 => ("SameTuesdayModel", "deedLong", "[I", true)
  | 16 => ("SameTuesdayModel", "at", "I", false)
  | 17 => ("SameTuesdayModel", "readMany", "I", false)
  | 18 => ("SameTuesdayModel", "readDeeds", "I", false)
  | 19 => ("SameTuesdayModel", "read", "[I", true)
  | 20 => ("SameTuesdayModel", "readDeed", "[I", true)
  | 21 => ("SameTuesdayModel", "pairs", "I", false)
  | 22 => ("SameTuesdayModel", "pairMinute", "[I", true)
  | 23 => ("SameTuesdayModel", "pairDeed", "[I", true)
  | 24 => ("SameTuesdayModel", "isWrong", "[Z", true)
  | 25 => ("SameTuesdayModel", "otherDeed", "I", false)
  | 26 => ("SameTuesdayModel", "otherMinute", "I", false)
  | 27 => ("SameTuesdayModel", "hasBegun", "Z", false)
  | 28 => ("SameTuesdayModel", "idle", "[Z", true)
  | 29 => ("SameTuesdayModel", "busyWith", "[Z", true)
  | 30 => ("SameTuesdayModel", "then", "[Z", true)
  | 31 => ("SameTuesdayModel", "canBe", "[Z", true)
  | 32 => ("SameTuesdayModel", "days", "I", false)
  | _ => ("SameTuesdayModel", "lived", "[I", true)
def zt_Mod : Nat → FieldType := fun k => match k with
  | 0 => .int
  | 1 => .int
  | 2 => .array .int
  | 3 => .array .int
  | 4 => .array .int
  | 5 => .int
  | 6 => .int
  | 7 => .int
  | 8 => .array .int
  | 9 => .array .int
  | 10 => .array .int
  | 11 => .array .int
  | 12 => .array .int
  | 13 => .array .int
  | 14 => .array .int
  | 15 => .array .int
  | 16 => .int
  | 17 => .int
  | 18 => .int
  | 19 => .array .int
  | 20 => .array .int
  | 21 => .int
  | 22 => .array .int
  | 23 => .array .int
  | 24 => .array .boolean
  | 25 => .int
  | 26 => .int
  | 27 => .boolean
  | 28 => .array .boolean
  | 29 => .array .boolean
  | 30 => .array .boolean
  | 31 => .array .boolean
  | 32 => .int
  | _ => .array .int
theorem zn_Mod : ∀ a, a < 34 → ∀ b, b < 34 → a ≠ b → (zF_Mod a).2.1 ≠ (zF_Mod b).2.1 := by decide +kernel
theorem zk_Mod : ∀ k, k < 34 → parseFieldDescriptor (zF_Mod k).2.2.1 = some (zt_Mod k) := by decide +kernel
set_option maxRecDepth 20000 in
theorem zi0_Mod : ∀ k, k < 34 → u_lay "SameTuesdayModel" zF_Mod k ∈ zb_tb := fun k hk => match k, hk with
  | 0, _ => zb_mem 939 rfl rfl
  | 1, _ => zb_mem 941 rfl rfl
  | 2, _ => zb_mem 943 rfl rfl
  | 3, _ => zb_mem 945 rfl rfl
  | 4, _ => zb_mem 947 rfl rfl
  | 5, _ => zb_mem 949 rfl rfl
  | 6, _ => zb_mem 951 rfl rfl
  | 7, _ => zb_mem 953 rfl rfl
  | 8, _ => zb_mem 955 rfl rfl
  | 9, _ => zb_mem 957 rfl rfl
  | 10, _ => zb_mem 959 rfl rfl
  | 11, _ => zb_mem 961 rfl rfl
  | 12, _ => zb_mem 963 rfl rfl
  | 13, _ => zb_mem 965 rfl rfl
  | 14, _ => zb_mem 967 rfl rfl
  | 15, _ => zb_mem 969 rfl rfl
  | 16, _ => zb_mem 971 rfl rfl
  | 17, _ => zb_mem 973 rfl rfl
  | 18, _ => zb_mem 975 rfl rfl
  | 19, _ => zb_mem 977 rfl rfl
  | 20, _ => zb_mem 979 rfl rfl
  | 21, _ => zb_mem 981 rfl rfl
  | 22, _ => zb_mem 983 rfl rfl
  | 23, _ => zb_mem 985 rfl rfl
  | 24, _ => zb_mem 987 rfl rfl
  | 25, _ => zb_mem 989 rfl rfl
  | 26, _ => zb_mem 991 rfl rfl
  | 27, _ => zb_mem 993 rfl rfl
  | 28, _ => zb_mem 995 rfl rfl
  | 29, _ => zb_mem 997 rfl rfl
  | 30, _ => zb_mem 999 rfl rfl
  | 31, _ => zb_mem 1001 rfl rfl
  | 32, _ => zb_mem 1003 rfl rfl
  | 33, _ => zb_mem 1005 rfl rfl
  | k + 34, hk => absurd hk (by omega)
theorem zi_Mod : ∀ w ∈ u_ws "SameTuesdayModel" zF_Mod 34, w ∈ zb_tb := fun w hw => by
  obtain ⟨k, hk, rfl⟩ := List.mem_map.mp hw
  exact zi0_Mod k (List.mem_range.mp hk)
def zb_cl : List vw_C := [("SameTuesday$Caprice", zF_Cap, 6), ("SameTuesday$Deed", zF_Deed, 5), ("SameTuesday$Happening", zF_Hap, 6), ("SameTuesday$Law", zF_Law, 2), ("SameTuesday$Life", zF_Life, 12), ("SameTuesday$Mishap", zF_Mis, 6), ("SameTuesday$Reach", zF_Rch, 5), ("SameTuesday$Sheet", zF_Sht, 3), ("SameTuesday$Text", zF_Txt, 6), ("SameTuesday$Town", zF_Twn, 6), ("SameTuesday$Trace", zF_Trc, 1), ("SameTuesday", zF_Tue, 7), ("SameTuesdayModel", zF_Mod, 34)]
def zb_nest : List (String × Nat × MethodName × String) := [("SameTuesday$Happening", 22, ⟨"SameTuesday", "worldWith", "(I)J"⟩, "SameTuesday"), ("SameTuesday$Deed", 24, ⟨"SameTuesday", "worldWith", "(I)J"⟩, "SameTuesday"), ("SameTuesday$Life", 59, ⟨"SameTuesday", "isMinute", "(I)Z"⟩, "SameTuesday"), ("SameTuesday$Reach", 39, ⟨"SameTuesday", "worldWithAll", "(I)J"⟩, "SameTuesday"), ("SameTuesday$Law", 27, ⟨"SameTuesday", "worldWithin", "(I)J"⟩, "SameTuesday"), ("SameTuesday$Law", 35, ⟨"SameTuesday", "hasState", "(JI)Z"⟩, "SameTuesday"), ("SameTuesday$Law", 45, ⟨"SameTuesday", "lesserPart", "(JI)I"⟩, "SameTuesday")]
def zb_ao : List String := ["SameTuesday$Sheet", "SameTuesday$Happening", "SameTuesday$Deed"]
def zb_ca : List (String × String) := [("SameTuesday$Mishap", "SameTuesday$Happening"), ("SameTuesday$Caprice", "SameTuesday$Happening")]
def zb_so : Nat → Int64 := fun j => match j with
  | 0 => 0xAAAAAAAAAAAAAAAA
  | 1 => 0xCCCCCCCCCCCCCCCC
  | 2 => 0xF0F0F0F0F0F0F0F0
  | 3 => 0xFF00FF00FF00FF00
  | 4 => 0xFFFF0000FFFF0000
  | _ => 0xFFFFFFFF00000000
/-! the walk of a method over a world: ZG what is fixed for all methods (launch, tables, array classes, first own address, the static row), ZY what is fixed for one -/
abbrev ZG : Type := Launch × va_G × (Nat → ClassId) × Nat × Nat
abbrev ZY : Type := Program × Env × Room × State × MethodId × Array Value × List Frame × Method × Code × (State → Prop) × Nat
def zc (G : ZG) : Nat → ClassId := G.2.2.1
def zso (G : ZG) : Nat := G.2.2.2.2
def zb_A (B : Nat) : Nat → Prop := fun q => B ≤ q
def zb_tys (cA : Nat → ClassId) : List (ClassId × FieldType) := [(cA 0, .int), (cA 1, .boolean), (cA 2, .long), (cA 3, .object "SameTuesday$Sheet"), (cA 4, .object "SameTuesday$Happening"), (cA 5, .object "SameTuesday$Deed")]
def zb_S (B t : Nat) (U : State) (H : Heap) : Prop := va_Z "SameTuesday" "SO" "[J" (.ref t) (zb_A B) U H ∧ va_T .long t 6 (fun j => .long (zb_so j)) (zb_A B) U H
def zb_amb (cA : Nat → ClassId) (D : va_G) (B t : Nat) (U : State) : Prop := va_K D zb_cl (zb_tys cA) U ∧ zb_S B t U U.heap ∧ (∀ q ∈ zb_nest, va_Nw (.methodLinkNest q.1 q.2.1 q.2.2.1 q.2.2.2) U) ∧ (∀ C ∈ zb_ao, va_AO C U) ∧ (∀ q ∈ zb_ca, va_Nw (.castable q.1 q.2) U)
def ZV : ZG → ZY → Nat → Nat → Nat → List (Nat × Value) → List Value → va_W → Prop
  | (l, D, _, B, _), (p, e, R, s, m, args, below, meth, c, Q, nL), kc, ks, pc, lv, st, w =>
    ∀ (H : Heap) (locs : List Loc) (ls : Array Slot), va_P D zb_cl w H → va_D (zb_A B) w → va_S (zb_A B) s.heap H locs → lv_has ls nL lv → W p l e R s m args below meth c H locs kc ks Q (F0 m pc ls st)
def ZC : ZG → ZY → ByteArray → String → String → Option FieldType → Room → Nat → Prop
  | (_, D, cA, B, t), (p, _, R, s, m, args, _, meth, c, _, nL), cc, own, nm, ret, rm, nl =>
    p.tables.exec = Jvm.exec ∧ c.code = cc ∧ c.maxLocals = nl ∧ nL = nl ∧ s.vm.findClass own = some m.cls ∧ (∀ w ∈ zb_tb, w.before args s = true) ∧ va_K D zb_cl (zb_tys cA) s ∧ meth.locks = false ∧ meth.sig.returnType = ret ∧ meth.name = nm ∧ R = rm ∧ B ≤ s.heap.size ∧ zb_S B t s s.heap ∧ (∀ q ∈ zb_nest, va_Nw (.methodLinkNest q.1 q.2.1 q.2.2.1 q.2.2.2) s) ∧ (∀ C ∈ zb_ao, va_AO C s) ∧ (∀ q ∈ zb_ca, va_Nw (.castable q.1 q.2) s)
def ZQc (D : va_G) (B : Nat) (post : Option Value → va_W → Prop) : Array Value → State → Outcome → State → Prop := fun _ st o t => (∃ (v : Option Value) (w : va_W), o = .returned v ∧ post v w ∧ va_P D zb_cl w t.heap ∧ va_D (zb_A B) w) ∧ va_F (zb_A B) st t
def ZQ : ZG → ZY → (Option Value → va_W → Prop) → Nat → Nat → Prop
  | (_, D, _, B, _), (_, _, _, s, _, args, below, _, _, Q, _), post, mc, ms => Q = MQ below (ZQc D B post) args s mc ms (zb_A B)
def ZE (G : ZG) (w : va_W) (U : State) : Prop := G.2.2.2.1 ≤ U.heap.size ∧ zb_amb G.2.2.1 G.2.1 G.2.2.2.1 G.2.2.2.2 U ∧ va_P G.2.1 zb_cl w U.heap ∧ va_D (zb_A G.2.2.2.1) w
def ZM (G : ZG) (y : MethodName) (bytes : ByteArray) (maxL : Nat) (ret : Option FieldType) (rm : Room) (av : List Value) (w : va_W) (post : Option Value → va_W → Prop) : Prop :=
  Met G.1 y (Cond.code y bytes maxL ret :: zb_tb) rm (va_Pc av (ZE G w)) (ZQc G.2.1 G.2.2.2.1 post) rm.cells rm.slots (zb_A G.2.2.2.1)
/-! what is decoded -/
def zd (cc : ByteArray) (pc : Nat) (i : Instr) (len pc1 : Nat) : Prop := decode cc pc = .ok (i, len) ∧ pc + len = pc1
def zd_l (f : Fin 4 → Instr) (g : Nat → Instr) (cc : ByteArray) (pc i pc1 : Nat) : Prop := (∃ k : Fin 4, (k : Nat) = i ∧ decode cc pc = .ok (f k, 1) ∧ pc + 1 = pc1) ∨ (decode cc pc = .ok (g i, 2) ∧ pc + 2 = pc1)
def zd_b (cc : ByteArray) (pc : Nat) (f : Int → Instr) (pc1 tg : Nat) : Prop := ∃ off : Int, decode cc pc = .ok (f off, 3) ∧ (pc : Int) + off = (tg : Int) ∧ pc + 3 = pc1
def zd_i (cc : ByteArray) (pc i : Nat) (n : Int) (v : Int32) (pc1 : Nat) : Prop := decode cc pc = .ok (.iinc i n, 3) ∧ Int32.ofInt n = v ∧ pc + 3 = pc1
def zd_k (cc : ByteArray) (own : String) (pc : Nat) (v : Int32) (pc1 : Nat) : Prop := (∃ n : Int, decode cc pc = .ok (.iconst n, 1) ∧ Int32.ofInt n = v ∧ pc + 1 = pc1) ∨ (∃ n : Int, decode cc pc = .ok (.bipush n, 2) ∧ (Int8.ofInt n).toInt32 = v ∧ pc + 2 = pc1) ∨ (∃ n : Int, decode cc pc = .ok (.sipush n, 3) ∧ (Int16.ofInt n).toInt32 = v ∧ pc + 3 = pc1) ∨ (∃ ix : Nat, decode cc pc = .ok (.ldc_w ix, 3) ∧ Cond.constant own ix v ∈ zb_tb ∧ pc + 3 = pc1)
def zd_kl (cc : ByteArray) (own : String) (pc : Nat) (v : Int64) (pc1 : Nat) : Prop := (∃ n : Fin 2, decode cc pc = .ok (.lconst n, 1) ∧ Int64.ofNat (n : Nat) = v ∧ pc + 1 = pc1) ∨ (∃ ix : Nat, decode cc pc = .ok (.ldc2_w ix, 3) ∧ Cond.constantLong own ix v ∈ zb_tb ∧ pc + 3 = pc1)
/-! the locals -/
def zg : List (Nat × Value) → Nat → Option Value
  | [], _ => none
  | q :: l, i => match Nat.beq q.1 i with
    | true => some q.2
    | false => zg l i
def zs1 (i : Nat) (v : Value) (lv : List (Nat × Value)) : List (Nat × Value) := (i, v) :: lv.filter (fun q => !(q.1 == i) && !(q.1 + 1 == i && q.2.category == 2))
def zs2 (i : Nat) (v : Value) (lv : List (Nat × Value)) : List (Nat × Value) := (i, v) :: lv.filter (fun q => !(q.1 == i) && (!(q.1 == i + 1) && !(q.1 + 1 == i && q.2.category == 2)))
theorem zg_mem : ∀ {lv : List (Nat × Value)} {i : Nat} {v : Value}, zg lv i = some v → (i, v) ∈ lv
  | [], i, v, h => by cases h
  | q :: l, i, v, h => by
    unfold zg at h
    cases hb : Nat.beq q.1 i with
    | true =>
      rw [hb] at h
      have e := Nat.eq_of_beq_eq_true hb
      obtain ⟨a, b⟩ := q
      cases h
      cases e
      exact List.mem_cons_self
    | false =>
      rw [hb] at h
      exact List.mem_cons_of_mem _ (zg_mem h)
theorem zg_at {ls : Array Slot} {nL : Nat} {lv : List (Nat × Value)} {i : Nat} {v : Value} (hl : lv_has ls nL lv) (h : zg lv i = some v) : ls[i]? = some (.val v) := hl.2.2 (i, v) (zg_mem h)
def zpick (lv : List (Nat × Value)) (is : List Nat) : List (Nat × Value) := is.filterMap (fun i => (zg lv i).map (fun v => (i, v)))
theorem zpick_sub {lv : List (Nat × Value)} {is : List Nat} : ∀ q ∈ zpick lv is, q ∈ lv := fun q hq => by
  obtain ⟨i, -, hi⟩ := List.mem_filterMap.mp hq
  cases hz : zg lv i with
  | none => rw [hz] at hi; cases hi
  | some v => rw [hz] at hi; cases hi; exact zg_mem hz
theorem zx_lv {G : ZG} {Y : ZY} {kc ks pc : Nat} {lv lv1 : List (Nat × Value)} {st : List Value} {w : va_W} (is : List Nat) (h : zpick lv is = lv1) (kk : ZV G Y kc ks pc lv1 st w) : ZV G Y kc ks pc lv st w := by
  obtain ⟨l, D, cA, B, t⟩ := G
  obtain ⟨p, e, R, s, m, args, below, meth, c, Q, nL⟩ := Y
  subst h
  intro H locs ls hP hD hS hl
  exact kk H locs ls hP hD hS ⟨hl.1, hl.2.1, fun q hq => hl.2.2 q (zpick_sub q hq)⟩
theorem zx_eq {G : ZG} {Y : ZY} {kc ks pc : Nat} {lv lv1 : List (Nat × Value)} {st st1 : List Value} {w w1 : va_W} (h1 : lv = lv1) (h2 : st = st1) (h3 : w = w1) (kk : ZV G Y kc ks pc lv1 st1 w1) : ZV G Y kc ks pc lv st w := by
  subst h1; subst h2; subst h3; exact kk
theorem zx_widen {G : ZG} {Y : ZY} {kc ks kc1 ks1 pc : Nat} {lv : List (Nat × Value)} {st : List Value} {w : va_W} (h1 : kc ≤ kc1) (h2 : ks ≤ ks1) (kk : ZV G Y kc1 ks1 pc lv st w) : ZV G Y kc ks pc lv st w := by
  obtain ⟨l, D, cA, B, t⟩ := G
  obtain ⟨p, e, R, s, m, args, below, meth, c, Q, nL⟩ := Y
  intro H locs ls hP hD hS hl
  exact W.widen h1 h2 (kk H locs ls hP hD hS hl)
/-- the world in another order, or less of it -/
theorem zx_world {G : ZG} {Y : ZY} {kc ks pc : Nat} {lv : List (Nat × Value)} {st : List Value} {w w1 : va_W} (hP1 : ∀ (k : Nat) (q : Nat × va_E), w1[k]? = some q → ∃ j : Nat, w[j]? = some q) (hD1 : ∀ A : Nat → Prop, va_D A w → va_D A w1) (kk : ZV G Y kc ks pc lv st w1) : ZV G Y kc ks pc lv st w := by
  obtain ⟨l, D, cA, B, t⟩ := G
  obtain ⟨p, e, R, s, m, args, below, meth, c, Q, nL⟩ := Y
  intro H locs ls hP hD hS hl
  exact kk H locs ls (fun k q hk => by obtain ⟨j, hj⟩ := hP1 k q hk; exact hP j q hj) (hD1 _ hD) hS hl
/-! the constant pool's fields -/
def zb_FL (own : String) (idx ci k : Nat) : Prop := ∃ (Cn : String) (T : u_T) (N : Nat) (ref : String), zb_cl[ci]? = some (Cn, T, N) ∧ k < N ∧ (∀ w ∈ u_ws Cn T N, w ∈ zb_tb) ∧ Cond.fieldLink own idx ref (T k).2.1 (T k).2.2.1 ∈ zb_tb ∧ (ref = (T k).1 ∨ Cond.sameField ref (T k).1 (T k).2.1 (T k).2.2.1 ∈ zb_tb)
def zb_PL (own : String) (idx ci k : Nat) (ty : FieldType) : Prop := ∃ (Cn : String) (T : u_T) (N : Nat) (ref : String) (ty0 : Nat → FieldType), zb_cl[ci]? = some (Cn, T, N) ∧ k < N ∧ (∀ w ∈ u_ws Cn T N, w ∈ zb_tb) ∧ Cond.fieldLink own idx ref (T k).2.1 (T k).2.2.1 ∈ zb_tb ∧ (ref = (T k).1 ∨ Cond.sameField ref (T k).1 (T k).2.1 (T k).2.2.1 ∈ zb_tb) ∧ (∀ k, k < N → parseFieldDescriptor (T k).2.2.1 = some (ty0 k)) ∧ (∀ a, a < N → ∀ b, b < N → a ≠ b → (T a).2.1 ≠ (T b).2.1) ∧ (T k).2.2.2 = false ∧ parseFieldDescriptor (T k).2.2.1 = some ty
def zb_PF (own : String) (idx ci k : Nat) (ty : FieldType) : Prop := ∃ (Cn : String) (T : u_T) (N : Nat) (ref : String) (ty0 : Nat → FieldType), zb_cl[ci]? = some (Cn, T, N) ∧ k < N ∧ (∀ w ∈ u_ws Cn T N, w ∈ zb_tb) ∧ Cond.fieldLink own idx ref (T k).2.1 (T k).2.2.1 ∈ zb_tb ∧ (ref = (T k).1 ∨ Cond.sameField ref (T k).1 (T k).2.1 (T k).2.2.1 ∈ zb_tb) ∧ (∀ k, k < N → parseFieldDescriptor (T k).2.2.1 = some (ty0 k)) ∧ (∀ a, a < N → ∀ b, b < N → a ≠ b → (T a).2.1 ≠ (T b).2.1) ∧ (T k).2.2.2 = true ∧ parseFieldDescriptor (T k).2.2.1 = some ty ∧ (T k).1 = own
def zb_fit (ty : FieldType) (v : Value) : Prop := narrow ty v = v ∧ fits ty v = true

section ZRows
variable {G : ZG} {Y : ZY} {cc : ByteArray} {own nm : String} {ret : Option FieldType} {rm : Room} {nl : Nat} {kc ks pc pc1 : Nat} {lv : List (Nat × Value)} {st : List Value} {w : va_W}
theorem zx_iadd (C : ZC G Y cc own nm ret rm nl) {x : Int32} {y : Int32} (hd : zd cc pc .iadd 1 pc1) (kk : ZV G Y kc ks pc1 lv (.int (x + y) :: st) w) : ZV G Y kc ks pc lv (.int y :: .int x :: st) w := by
  obtain ⟨l, D, cA, B, t⟩ := G
  obtain ⟨p, e, R, s, m, args, below, meth, c, Q, nL⟩ := Y
  obtain ⟨hx, hb, hml, hnl, hown, hts, hK, hlk, hr, hnm, hR, hB, hZ, hN, hO, hCa⟩ := C
  obtain ⟨hd, rfl⟩ := hd
  intro H locs ls hP hD hS hl
  exact lv_iadd hx hb hd (kk H locs ls hP hD hS hl)
theorem zx_isub (C : ZC G Y cc own nm ret rm nl) {x : Int32} {y : Int32} (hd : zd cc pc .isub 1 pc1) (kk : ZV G Y kc ks pc1 lv (.int (x - y) :: st) w) : ZV G Y kc ks pc lv (.int y :: .int x :: st) w := by
  obtain ⟨l, D, cA, B, t⟩ := G
  obtain ⟨p, e, R, s, m, args, below, meth, c, Q, nL⟩ := Y
  obtain ⟨hx, hb, hml, hnl, hown, hts, hK, hlk, hr, hnm, hR, hB, hZ, hN, hO, hCa⟩ := C
  obtain ⟨hd, rfl⟩ := hd
  intro H locs ls hP hD hS hl
  exact lv_isub hx hb hd (kk H locs ls hP hD hS hl)
theorem zx_imul (C : ZC G Y cc own nm ret rm nl) {x : Int32} {y : Int32} (hd : zd cc pc .imul 1 pc1) (kk : ZV G Y kc ks pc1 lv (.int (x * y) :: st) w) : ZV G Y kc ks pc lv (.int y :: .int x :: st) w := by
  obtain ⟨l, D, cA, B, t⟩ := G
  obtain ⟨p, e, R, s, m, args, below, meth, c, Q, nL⟩ := Y
  obtain ⟨hx, hb, hml, hnl, hown, hts, hK, hlk, hr, hnm, hR, hB, hZ, hN, hO, hCa⟩ := C
  obtain ⟨hd, rfl⟩ := hd
  intro H locs ls hP hD hS hl
  exact lv_imul hx hb hd (kk H locs ls hP hD hS hl)
theorem zx_iand (C : ZC G Y cc own nm ret rm nl) {x : Int32} {y : Int32} (hd : zd cc pc .iand 1 pc1) (kk : ZV G Y kc ks pc1 lv (.int (x &&& y) :: st) w) : ZV G Y kc ks pc lv (.int y :: .int x :: st) w := by
  obtain ⟨l, D, cA, B, t⟩ := G
  obtain ⟨p, e, R, s, m, args, below, meth, c, Q, nL⟩ := Y
  obtain ⟨hx, hb, hml, hnl, hown, hts, hK, hlk, hr, hnm, hR, hB, hZ, hN, hO, hCa⟩ := C
  obtain ⟨hd, rfl⟩ := hd
  intro H locs ls hP hD hS hl
  exact lv_iand hx hb hd (kk H locs ls hP hD hS hl)
theorem zx_ior (C : ZC G Y cc own nm ret rm nl) {x : Int32} {y : Int32} (hd : zd cc pc .ior 1 pc1) (kk : ZV G Y kc ks pc1 lv (.int (x ||| y) :: st) w) : ZV G Y kc ks pc lv (.int y :: .int x :: st) w := by
  obtain ⟨l, D, cA, B, t⟩ := G
  obtain ⟨p, e, R, s, m, args, below, meth, c, Q, nL⟩ := Y
  obtain ⟨hx, hb, hml, hnl, hown, hts, hK, hlk, hr, hnm, hR, hB, hZ, hN, hO, hCa⟩ := C
  obtain ⟨hd, rfl⟩ := hd
  intro H locs ls hP hD hS hl
  exact lv_ior hx hb hd (kk H locs ls hP hD hS hl)
theorem zx_ixor (C : ZC G Y cc own nm ret rm nl) {x : Int32} {y : Int32} (hd : zd cc pc .ixor 1 pc1) (kk : ZV G Y kc ks pc1 lv (.int (x ^^^ y) :: st) w) : ZV G Y kc ks pc lv (.int y :: .int x :: st) w := by
  obtain ⟨l, D, cA, B, t⟩ := G
  obtain ⟨p, e, R, s, m, args, below, meth, c, Q, nL⟩ := Y
  obtain ⟨hx, hb, hml, hnl, hown, hts, hK, hlk, hr, hnm, hR, hB, hZ, hN, hO, hCa⟩ := C
  obtain ⟨hd, rfl⟩ := hd
  intro H locs ls hP hD hS hl
  exact lv_ixor hx hb hd (kk H locs ls hP hD hS hl)
theorem zx_ladd (C : ZC G Y cc own nm ret rm nl) {x : Int64} {y : Int64} (hd : zd cc pc .ladd 1 pc1) (kk : ZV G Y kc ks pc1 lv (.long (x + y) :: st) w) : ZV G Y kc ks pc lv (.long y :: .long x :: st) w := by
  obtain ⟨l, D, cA, B, t⟩ := G
  obtain ⟨p, e, R, s, m, args, below, meth, c, Q, nL⟩ := Y
  obtain ⟨hx, hb, hml, hnl, hown, hts, hK, hlk, hr, hnm, hR, hB, hZ, hN, hO, hCa⟩ := C
  obtain ⟨hd, rfl⟩ := hd
  intro H locs ls hP hD hS hl
  exact lv_ladd hx hb hd (kk H locs ls hP hD hS hl)
theorem zx_lsub (C : ZC G Y cc own nm ret rm nl) {x : Int64} {y : Int64} (hd : zd cc pc .lsub 1 pc1) (kk : ZV G Y kc ks pc1 lv (.long (x - y) :: st) w) : ZV G Y kc ks pc lv (.long y :: .long x :: st) w := by
  obtain ⟨l, D, cA, B, t⟩ := G
  obtain ⟨p, e, R, s, m, args, below, meth, c, Q, nL⟩ := Y
  obtain ⟨hx, hb, hml, hnl, hown, hts, hK, hlk, hr, hnm, hR, hB, hZ, hN, hO, hCa⟩ := C
  obtain ⟨hd, rfl⟩ := hd
  intro H locs ls hP hD hS hl
  exact lv_lsub hx hb hd (kk H locs ls hP hD hS hl)
theorem zx_lmul (C : ZC G Y cc own nm ret rm nl) {x : Int64} {y : Int64} (hd : zd cc pc .lmul 1 pc1) (kk : ZV G Y kc ks pc1 lv (.long (x * y) :: st) w) : ZV G Y kc ks pc lv (.long y :: .long x :: st) w := by
  obtain ⟨l, D, cA, B, t⟩ := G
  obtain ⟨p, e, R, s, m, args, below, meth, c, Q, nL⟩ := Y
  obtain ⟨hx, hb, hml, hnl, hown, hts, hK, hlk, hr, hnm, hR, hB, hZ, hN, hO, hCa⟩ := C
  obtain ⟨hd, rfl⟩ := hd
  intro H locs ls hP hD hS hl
  exact lv_lmul hx hb hd (kk H locs ls hP hD hS hl)
theorem zx_land (C : ZC G Y cc own nm ret rm nl) {x : Int64} {y : Int64} (hd : zd cc pc .land 1 pc1) (kk : ZV G Y kc ks pc1 lv (.long (x &&& y) :: st) w) : ZV G Y kc ks pc lv (.long y :: .long x :: st) w := by
  obtain ⟨l, D, cA, B, t⟩ := G
  obtain ⟨p, e, R, s, m, args, below, meth, c, Q, nL⟩ := Y
  obtain ⟨hx, hb, hml, hnl, hown, hts, hK, hlk, hr, hnm, hR, hB, hZ, hN, hO, hCa⟩ := C
  obtain ⟨hd, rfl⟩ := hd
  intro H locs ls hP hD hS hl
  exact lv_land hx hb hd (kk H locs ls hP hD hS hl)
theorem zx_lor (C : ZC G Y cc own nm ret rm nl) {x : Int64} {y : Int64} (hd : zd cc pc .lor 1 pc1) (kk : ZV G Y kc ks pc1 lv (.long (x ||| y) :: st) w) : ZV G Y kc ks pc lv (.long y :: .long x :: st) w := by
  obtain ⟨l, D, cA, B, t⟩ := G
  obtain ⟨p, e, R, s, m, args, below, meth, c, Q, nL⟩ := Y
  obtain ⟨hx, hb, hml, hnl, hown, hts, hK, hlk, hr, hnm, hR, hB, hZ, hN, hO, hCa⟩ := C
  obtain ⟨hd, rfl⟩ := hd
  intro H locs ls hP hD hS hl
  exact lv_lor hx hb hd (kk H locs ls hP hD hS hl)
theorem zx_lxor (C : ZC G Y cc own nm ret rm nl) {x : Int64} {y : Int64} (hd : zd cc pc .lxor 1 pc1) (kk : ZV G Y kc ks pc1 lv (.long (x ^^^ y) :: st) w) : ZV G Y kc ks pc lv (.long y :: .long x :: st) w := by
  obtain ⟨l, D, cA, B, t⟩ := G
  obtain ⟨p, e, R, s, m, args, below, meth, c, Q, nL⟩ := Y
  obtain ⟨hx, hb, hml, hnl, hown, hts, hK, hlk, hr, hnm, hR, hB, hZ, hN, hO, hCa⟩ := C
  obtain ⟨hd, rfl⟩ := hd
  intro H locs ls hP hD hS hl
  exact lv_lxor hx hb hd (kk H locs ls hP hD hS hl)
theorem zx_ishl (C : ZC G Y cc own nm ret rm nl) {x : Int32} {y : Int32} (hd : zd cc pc .ishl 1 pc1) (kk : ZV G Y kc ks pc1 lv (.int (x <<< (y &&& 31)) :: st) w) : ZV G Y kc ks pc lv (.int y :: .int x :: st) w := by
  obtain ⟨l, D, cA, B, t⟩ := G
  obtain ⟨p, e, R, s, m, args, below, meth, c, Q, nL⟩ := Y
  obtain ⟨hx, hb, hml, hnl, hown, hts, hK, hlk, hr, hnm, hR, hB, hZ, hN, hO, hCa⟩ := C
  obtain ⟨hd, rfl⟩ := hd
  intro H locs ls hP hD hS hl
  exact lv_ishl hx hb hd (kk H locs ls hP hD hS hl)
theorem zx_ishr (C : ZC G Y cc own nm ret rm nl) {x : Int32} {y : Int32} (hd : zd cc pc .ishr 1 pc1) (kk : ZV G Y kc ks pc1 lv (.int (x >>> (y &&& 31)) :: st) w) : ZV G Y kc ks pc lv (.int y :: .int x :: st) w := by
  obtain ⟨l, D, cA, B, t⟩ := G
  obtain ⟨p, e, R, s, m, args, below, meth, c, Q, nL⟩ := Y
  obtain ⟨hx, hb, hml, hnl, hown, hts, hK, hlk, hr, hnm, hR, hB, hZ, hN, hO, hCa⟩ := C
  obtain ⟨hd, rfl⟩ := hd
  intro H locs ls hP hD hS hl
  exact lv_ishr hx hb hd (kk H locs ls hP hD hS hl)
theorem zx_iushr (C : ZC G Y cc own nm ret rm nl) {x : Int32} {y : Int32} (hd : zd cc pc .iushr 1 pc1) (kk : ZV G Y kc ks pc1 lv (.int (x.toUInt32 >>> (y.toUInt32 &&& Int32.toUInt32 31)).toInt32 :: st) w) : ZV G Y kc ks pc lv (.int y :: .int x :: st) w := by
  obtain ⟨l, D, cA, B, t⟩ := G
  obtain ⟨p, e, R, s, m, args, below, meth, c, Q, nL⟩ := Y
  obtain ⟨hx, hb, hml, hnl, hown, hts, hK, hlk, hr, hnm, hR, hB, hZ, hN, hO, hCa⟩ := C
  obtain ⟨hd, rfl⟩ := hd
  intro H locs ls hP hD hS hl
  exact lv_iushr hx hb hd rfl (kk H locs ls hP hD hS hl)
theorem zx_lushr (C : ZC G Y cc own nm ret rm nl) {x : Int64} {y : Int32} (hd : zd cc pc .lushr 1 pc1) (kk : ZV G Y kc ks pc1 lv (.long (x.toUInt64 >>> (y.toInt64.toUInt64 &&& Int64.toUInt64 63)).toInt64 :: st) w) : ZV G Y kc ks pc lv (.int y :: .long x :: st) w := by
  obtain ⟨l, D, cA, B, t⟩ := G
  obtain ⟨p, e, R, s, m, args, below, meth, c, Q, nL⟩ := Y
  obtain ⟨hx, hb, hml, hnl, hown, hts, hK, hlk, hr, hnm, hR, hB, hZ, hN, hO, hCa⟩ := C
  obtain ⟨hd, rfl⟩ := hd
  intro H locs ls hP hD hS hl
  exact lv_lushr hx hb hd rfl (kk H locs ls hP hD hS hl)
theorem zx_lshl (C : ZC G Y cc own nm ret rm nl) {x : Int64} {y : Int32} (hd : zd cc pc .lshl 1 pc1) (kk : ZV G Y kc ks pc1 lv (.long (x <<< (y.toInt64 &&& 63)) :: st) w) : ZV G Y kc ks pc lv (.int y :: .long x :: st) w := by
  obtain ⟨l, D, cA, B, t⟩ := G
  obtain ⟨p, e, R, s, m, args, below, meth, c, Q, nL⟩ := Y
  obtain ⟨hx, hb, hml, hnl, hown, hts, hK, hlk, hr, hnm, hR, hB, hZ, hN, hO, hCa⟩ := C
  obtain ⟨hd, rfl⟩ := hd
  intro H locs ls hP hD hS hl
  exact lv_lshl hx hb hd rfl (kk H locs ls hP hD hS hl)
theorem zx_idiv (C : ZC G Y cc own nm ret rm nl) {x : Int32} {y : Int32} (hne : ¬ y = 0) (hd : zd cc pc .idiv 1 pc1) (kk : ZV G Y kc ks pc1 lv (.int (x / y) :: st) w) : ZV G Y kc ks pc lv (.int y :: .int x :: st) w := by
  obtain ⟨l, D, cA, B, t⟩ := G
  obtain ⟨p, e, R, s, m, args, below, meth, c, Q, nL⟩ := Y
  obtain ⟨hx, hb, hml, hnl, hown, hts, hK, hlk, hr, hnm, hR, hB, hZ, hN, hO, hCa⟩ := C
  obtain ⟨hd, rfl⟩ := hd
  intro H locs ls hP hD hS hl
  exact lv_idiv hx hb hd hne (kk H locs ls hP hD hS hl)
theorem zx_irem (C : ZC G Y cc own nm ret rm nl) {x : Int32} {y : Int32} (hne : ¬ y = 0) (hd : zd cc pc .irem 1 pc1) (kk : ZV G Y kc ks pc1 lv (.int (x - x / y * y) :: st) w) : ZV G Y kc ks pc lv (.int y :: .int x :: st) w := by
  obtain ⟨l, D, cA, B, t⟩ := G
  obtain ⟨p, e, R, s, m, args, below, meth, c, Q, nL⟩ := Y
  obtain ⟨hx, hb, hml, hnl, hown, hts, hK, hlk, hr, hnm, hR, hB, hZ, hN, hO, hCa⟩ := C
  obtain ⟨hd, rfl⟩ := hd
  intro H locs ls hP hD hS hl
  exact lv_irem hx hb hd hne (kk H locs ls hP hD hS hl)
theorem zx_ldiv (C : ZC G Y cc own nm ret rm nl) {x : Int64} {y : Int64} (hne : ¬ y = 0) (hd : zd cc pc .ldiv 1 pc1) (kk : ZV G Y kc ks pc1 lv (.long (x / y) :: st) w) : ZV G Y kc ks pc lv (.long y :: .long x :: st) w := by
  obtain ⟨l, D, cA, B, t⟩ := G
  obtain ⟨p, e, R, s, m, args, below, meth, c, Q, nL⟩ := Y
  obtain ⟨hx, hb, hml, hnl, hown, hts, hK, hlk, hr, hnm, hR, hB, hZ, hN, hO, hCa⟩ := C
  obtain ⟨hd, rfl⟩ := hd
  intro H locs ls hP hD hS hl
  exact lv_ldiv hx hb hd hne (kk H locs ls hP hD hS hl)
theorem zx_lrem (C : ZC G Y cc own nm ret rm nl) {x : Int64} {y : Int64} (hne : ¬ y = 0) (hd : zd cc pc .lrem 1 pc1) (kk : ZV G Y kc ks pc1 lv (.long (x - x / y * y) :: st) w) : ZV G Y kc ks pc lv (.long y :: .long x :: st) w := by
  obtain ⟨l, D, cA, B, t⟩ := G
  obtain ⟨p, e, R, s, m, args, below, meth, c, Q, nL⟩ := Y
  obtain ⟨hx, hb, hml, hnl, hown, hts, hK, hlk, hr, hnm, hR, hB, hZ, hN, hO, hCa⟩ := C
  obtain ⟨hd, rfl⟩ := hd
  intro H locs ls hP hD hS hl
  exact lv_lrem hx hb hd hne (kk H locs ls hP hD hS hl)
theorem zx_i2l (C : ZC G Y cc own nm ret rm nl) {x : Int32} (hd : zd cc pc .i2l 1 pc1) (kk : ZV G Y kc ks pc1 lv (.long x.toInt64 :: st) w) : ZV G Y kc ks pc lv (.int x :: st) w := by
  obtain ⟨l, D, cA, B, t⟩ := G
  obtain ⟨p, e, R, s, m, args, below, meth, c, Q, nL⟩ := Y
  obtain ⟨hx, hb, hml, hnl, hown, hts, hK, hlk, hr, hnm, hR, hB, hZ, hN, hO, hCa⟩ := C
  obtain ⟨hd, rfl⟩ := hd
  intro H locs ls hP hD hS hl
  exact lv_i2l hx hb hd rfl (kk H locs ls hP hD hS hl)
theorem zx_l2i (C : ZC G Y cc own nm ret rm nl) {x : Int64} (hd : zd cc pc .l2i 1 pc1) (kk : ZV G Y kc ks pc1 lv (.int x.toInt32 :: st) w) : ZV G Y kc ks pc lv (.long x :: st) w := by
  obtain ⟨l, D, cA, B, t⟩ := G
  obtain ⟨p, e, R, s, m, args, below, meth, c, Q, nL⟩ := Y
  obtain ⟨hx, hb, hml, hnl, hown, hts, hK, hlk, hr, hnm, hR, hB, hZ, hN, hO, hCa⟩ := C
  obtain ⟨hd, rfl⟩ := hd
  intro H locs ls hP hD hS hl
  exact lv_l2i hx hb hd rfl (kk H locs ls hP hD hS hl)
theorem zx_i2b (C : ZC G Y cc own nm ret rm nl) {x : Int32} (hd : zd cc pc .i2b 1 pc1) (kk : ZV G Y kc ks pc1 lv (.int x.toInt8.toInt32 :: st) w) : ZV G Y kc ks pc lv (.int x :: st) w := by
  obtain ⟨l, D, cA, B, t⟩ := G
  obtain ⟨p, e, R, s, m, args, below, meth, c, Q, nL⟩ := Y
  obtain ⟨hx, hb, hml, hnl, hown, hts, hK, hlk, hr, hnm, hR, hB, hZ, hN, hO, hCa⟩ := C
  obtain ⟨hd, rfl⟩ := hd
  intro H locs ls hP hD hS hl
  exact lv_i2b hx hb hd rfl (kk H locs ls hP hD hS hl)
theorem zx_i2s (C : ZC G Y cc own nm ret rm nl) {x : Int32} (hd : zd cc pc .i2s 1 pc1) (kk : ZV G Y kc ks pc1 lv (.int x.toInt16.toInt32 :: st) w) : ZV G Y kc ks pc lv (.int x :: st) w := by
  obtain ⟨l, D, cA, B, t⟩ := G
  obtain ⟨p, e, R, s, m, args, below, meth, c, Q, nL⟩ := Y
  obtain ⟨hx, hb, hml, hnl, hown, hts, hK, hlk, hr, hnm, hR, hB, hZ, hN, hO, hCa⟩ := C
  obtain ⟨hd, rfl⟩ := hd
  intro H locs ls hP hD hS hl
  exact lv_i2s hx hb hd rfl (kk H locs ls hP hD hS hl)
theorem zx_lcmp (C : ZC G Y cc own nm ret rm nl) {x y : Int64} (hd : zd cc pc .lcmp 1 pc1) (kk : ZV G Y kc ks pc1 lv (.int (lg_cmp x y) :: st) w) : ZV G Y kc ks pc lv (.long y :: .long x :: st) w := by
  obtain ⟨l, D, cA, B, t⟩ := G
  obtain ⟨p, e, R, s, m, args, below, meth, c, Q, nL⟩ := Y
  obtain ⟨hx, hb, hml, hnl, hown, hts, hK, hlk, hr, hnm, hR, hB, hZ, hN, hO, hCa⟩ := C
  obtain ⟨hd, rfl⟩ := hd
  intro H locs ls hP hD hS hl
  exact W.lcmp hx hb hd (kk H locs ls hP hD hS hl)
theorem zx_dup (C : ZC G Y cc own nm ret rm nl) {v : Value} (hv : v.category = 1) (hd : zd cc pc .dup 1 pc1) (kk : ZV G Y kc ks pc1 lv (v :: v :: st) w) : ZV G Y kc ks pc lv (v :: st) w := by
  obtain ⟨l, D, cA, B, t⟩ := G
  obtain ⟨p, e, R, s, m, args, below, meth, c, Q, nL⟩ := Y
  obtain ⟨hx, hb, hml, hnl, hown, hts, hK, hlk, hr, hnm, hR, hB, hZ, hN, hO, hCa⟩ := C
  obtain ⟨hd, rfl⟩ := hd
  intro H locs ls hP hD hS hl
  exact lv_dup hx hb hd hv (kk H locs ls hP hD hS hl)
theorem zx_dup2 (C : ZC G Y cc own nm ret rm nl) {v u : Value} (hv : v.category = 1) (hu : u.category = 1) (hd : zd cc pc .dup2 1 pc1) (kk : ZV G Y kc ks pc1 lv (v :: u :: v :: u :: st) w) : ZV G Y kc ks pc lv (v :: u :: st) w := by
  obtain ⟨l, D, cA, B, t⟩ := G
  obtain ⟨p, e, R, s, m, args, below, meth, c, Q, nL⟩ := Y
  obtain ⟨hx, hb, hml, hnl, hown, hts, hK, hlk, hr, hnm, hR, hB, hZ, hN, hO, hCa⟩ := C
  obtain ⟨hd, rfl⟩ := hd
  intro H locs ls hP hD hS hl
  exact lv_dup2_11 hx hb hd hv hu (kk H locs ls hP hD hS hl)
theorem zx_pop (C : ZC G Y cc own nm ret rm nl) {v : Value} (hv : v.category = 1) (hd : zd cc pc .pop 1 pc1) (kk : ZV G Y kc ks pc1 lv st w) : ZV G Y kc ks pc lv (v :: st) w := by
  obtain ⟨l, D, cA, B, t⟩ := G
  obtain ⟨p, e, R, s, m, args, below, meth, c, Q, nL⟩ := Y
  obtain ⟨hx, hb, hml, hnl, hown, hts, hK, hlk, hr, hnm, hR, hB, hZ, hN, hO, hCa⟩ := C
  obtain ⟨hd, rfl⟩ := hd
  intro H locs ls hP hD hS hl
  exact lv_pop hx hb hd hv (kk H locs ls hP hD hS hl)
theorem zx_null (C : ZC G Y cc own nm ret rm nl)  (hd : zd cc pc .aconst_null 1 pc1) (kk : ZV G Y kc ks pc1 lv (.null :: st) w) : ZV G Y kc ks pc lv st w := by
  obtain ⟨l, D, cA, B, t⟩ := G
  obtain ⟨p, e, R, s, m, args, below, meth, c, Q, nL⟩ := Y
  obtain ⟨hx, hb, hml, hnl, hown, hts, hK, hlk, hr, hnm, hR, hB, hZ, hN, hO, hCa⟩ := C
  obtain ⟨hd, rfl⟩ := hd
  intro H locs ls hP hD hS hl
  exact lv_null hx hb hd (kk H locs ls hP hD hS hl)
theorem zx_iload (C : ZC G Y cc own nm ret rm nl) {i : Nat} {x : Int32} (hd : zd_l .iload_n .iload cc pc i pc1) (hg : zg lv i = some (.int x)) (kk : ZV G Y kc ks pc1 lv (.int x :: st) w) : ZV G Y kc ks pc lv st w := by
  obtain ⟨l, D, cA, B, t⟩ := G
  obtain ⟨p, e, R, s, m, args, below, meth, c, Q, nL⟩ := Y
  obtain ⟨hx, hb, hml, hnl, hown, hts, hK, hlk, hr, hnm, hR, hB, hZ, hN, hO, hCa⟩ := C
  rcases hd with ⟨k, hk, hd, rfl⟩ | ⟨hd, rfl⟩
  · intro H locs ls hP hD hS hl
    exact lv_iload_n hx hb hd hk (zg_at hl hg) (kk H locs ls hP hD hS hl)
  · intro H locs ls hP hD hS hl
    exact lv_iload hx hb hd (zg_at hl hg) (kk H locs ls hP hD hS hl)
theorem zx_lload (C : ZC G Y cc own nm ret rm nl) {i : Nat} {x : Int64} (hd : zd_l .lload_n .lload cc pc i pc1) (hg : zg lv i = some (.long x)) (kk : ZV G Y kc ks pc1 lv (.long x :: st) w) : ZV G Y kc ks pc lv st w := by
  obtain ⟨l, D, cA, B, t⟩ := G
  obtain ⟨p, e, R, s, m, args, below, meth, c, Q, nL⟩ := Y
  obtain ⟨hx, hb, hml, hnl, hown, hts, hK, hlk, hr, hnm, hR, hB, hZ, hN, hO, hCa⟩ := C
  rcases hd with ⟨k, hk, hd, rfl⟩ | ⟨hd, rfl⟩
  · intro H locs ls hP hD hS hl
    exact lv_lload_n hx hb hd hk (zg_at hl hg) (kk H locs ls hP hD hS hl)
  · intro H locs ls hP hD hS hl
    exact lv_lload hx hb hd (zg_at hl hg) (kk H locs ls hP hD hS hl)
theorem zx_aload (C : ZC G Y cc own nm ret rm nl) {i : Nat} {x : Nat} (hd : zd_l .aload_n .aload cc pc i pc1) (hg : zg lv i = some (.ref x)) (kk : ZV G Y kc ks pc1 lv (.ref x :: st) w) : ZV G Y kc ks pc lv st w := by
  obtain ⟨l, D, cA, B, t⟩ := G
  obtain ⟨p, e, R, s, m, args, below, meth, c, Q, nL⟩ := Y
  obtain ⟨hx, hb, hml, hnl, hown, hts, hK, hlk, hr, hnm, hR, hB, hZ, hN, hO, hCa⟩ := C
  rcases hd with ⟨k, hk, hd, rfl⟩ | ⟨hd, rfl⟩
  · intro H locs ls hP hD hS hl
    exact lv_aload_n hx hb hd hk (zg_at hl hg) (kk H locs ls hP hD hS hl)
  · intro H locs ls hP hD hS hl
    exact lv_aload hx hb hd (zg_at hl hg) (kk H locs ls hP hD hS hl)
theorem zx_aloadq (C : ZC G Y cc own nm ret rm nl) {i : Nat} {r : Option Nat} (hd : zd_l .aload_n .aload cc pc i pc1) (hg : zg lv i = some (va_rf r)) (kk : ZV G Y kc ks pc1 lv (va_rf r :: st) w) : ZV G Y kc ks pc lv st w := by
  obtain ⟨l, D, cA, B, t⟩ := G
  obtain ⟨p, e, R, s, m, args, below, meth, c, Q, nL⟩ := Y
  obtain ⟨hx, hb, hml, hnl, hown, hts, hK, hlk, hr, hnm, hR, hB, hZ, hN, hO, hCa⟩ := C
  cases r with
  | some x =>
    rcases hd with ⟨k, hk, hd, rfl⟩ | ⟨hd, rfl⟩
    · intro H locs ls hP hD hS hl
      exact lv_aload_n hx hb hd hk (zg_at hl hg) (kk H locs ls hP hD hS hl)
    · intro H locs ls hP hD hS hl
      exact lv_aload hx hb hd (zg_at hl hg) (kk H locs ls hP hD hS hl)
  | none =>
    rcases hd with ⟨k, hk, hd, rfl⟩ | ⟨hd, rfl⟩
    · intro H locs ls hP hD hS hl
      exact lv_aload_nN hx hb hd hk (zg_at hl hg) (kk H locs ls hP hD hS hl)
    · intro H locs ls hP hD hS hl
      exact lv_aloadN hx hb hd (zg_at hl hg) (kk H locs ls hP hD hS hl)
theorem zx_istore (C : ZC G Y cc own nm ret rm nl) {i : Nat} {x : Int32} {lv1 : List (Nat × Value)} (hd : zd_l .istore_n .istore cc pc i pc1) (hn : i < nl) (hs : zs1 i (.int x) lv = lv1) (kk : ZV G Y kc ks pc1 lv1 st w) : ZV G Y kc ks pc lv (.int x :: st) w := by
  obtain ⟨l, D, cA, B, t⟩ := G
  obtain ⟨p, e, R, s, m, args, below, meth, c, Q, nL⟩ := Y
  obtain ⟨hx, hb, hml, hnl, hown, hts, hK, hlk, hr, hnm, hR, hB, hZ, hN, hO, hCa⟩ := C
  subst hnl
  rcases hd with ⟨k, hk, hd, rfl⟩ | ⟨hd, rfl⟩
  · intro H locs ls hP hD hS hl
    exact lv_istore_n hx hb hd hk hl hn hs (fun ls2 hl2 => kk H locs ls2 hP hD hS hl2)
  · intro H locs ls hP hD hS hl
    exact lv_istore hx hb hd hl hn hs (fun ls2 hl2 => kk H locs ls2 hP hD hS hl2)
theorem zx_lstore (C : ZC G Y cc own nm ret rm nl) {i : Nat} {x : Int64} {lv1 : List (Nat × Value)} (hd : zd_l .lstore_n .lstore cc pc i pc1) (hn : i + 1 < nl) (hs : zs2 i (.long x) lv = lv1) (kk : ZV G Y kc ks pc1 lv1 st w) : ZV G Y kc ks pc lv (.long x :: st) w := by
  obtain ⟨l, D, cA, B, t⟩ := G
  obtain ⟨p, e, R, s, m, args, below, meth, c, Q, nL⟩ := Y
  obtain ⟨hx, hb, hml, hnl, hown, hts, hK, hlk, hr, hnm, hR, hB, hZ, hN, hO, hCa⟩ := C
  subst hnl
  rcases hd with ⟨k, hk, hd, rfl⟩ | ⟨hd, rfl⟩
  · intro H locs ls hP hD hS hl
    exact lv_lstore_n hx hb hd hk hl hn hs (fun ls2 hl2 => kk H locs ls2 hP hD hS hl2)
  · intro H locs ls hP hD hS hl
    exact lv_lstore hx hb hd hl hn hs (fun ls2 hl2 => kk H locs ls2 hP hD hS hl2)
theorem zx_astore (C : ZC G Y cc own nm ret rm nl) {i : Nat} {x : Nat} {lv1 : List (Nat × Value)} (hd : zd_l .astore_n .astore cc pc i pc1) (hn : i < nl) (hs : zs1 i (.ref x) lv = lv1) (kk : ZV G Y kc ks pc1 lv1 st w) : ZV G Y kc ks pc lv (.ref x :: st) w := by
  obtain ⟨l, D, cA, B, t⟩ := G
  obtain ⟨p, e, R, s, m, args, below, meth, c, Q, nL⟩ := Y
  obtain ⟨hx, hb, hml, hnl, hown, hts, hK, hlk, hr, hnm, hR, hB, hZ, hN, hO, hCa⟩ := C
  subst hnl
  rcases hd with ⟨k, hk, hd, rfl⟩ | ⟨hd, rfl⟩
  · intro H locs ls hP hD hS hl
    exact lv_astore_n hx hb hd hk hl hn hs (fun ls2 hl2 => kk H locs ls2 hP hD hS hl2)
  · intro H locs ls hP hD hS hl
    exact lv_astore hx hb hd hl hn hs (fun ls2 hl2 => kk H locs ls2 hP hD hS hl2)
theorem zx_astoreq (C : ZC G Y cc own nm ret rm nl) {i : Nat} {r : Option Nat} {lv1 : List (Nat × Value)} (hd : zd_l .astore_n .astore cc pc i pc1) (hn : i < nl) (hs : zs1 i (va_rf r) lv = lv1) (kk : ZV G Y kc ks pc1 lv1 st w) : ZV G Y kc ks pc lv (va_rf r :: st) w := by
  obtain ⟨l, D, cA, B, t⟩ := G
  obtain ⟨p, e, R, s, m, args, below, meth, c, Q, nL⟩ := Y
  obtain ⟨hx, hb, hml, hnl, hown, hts, hK, hlk, hr, hnm, hR, hB, hZ, hN, hO, hCa⟩ := C
  subst hnl
  cases r with
  | some x =>
    rcases hd with ⟨k, hk, hd, rfl⟩ | ⟨hd, rfl⟩
    · intro H locs ls hP hD hS hl
      exact lv_astore_n hx hb hd hk hl hn hs (fun ls2 hl2 => kk H locs ls2 hP hD hS hl2)
    · intro H locs ls hP hD hS hl
      exact lv_astore hx hb hd hl hn hs (fun ls2 hl2 => kk H locs ls2 hP hD hS hl2)
  | none =>
    rcases hd with ⟨k, hk, hd, rfl⟩ | ⟨hd, rfl⟩
    · intro H locs ls hP hD hS hl
      exact lv_astore_nN hx hb hd hk hl hn hs (fun ls2 hl2 => kk H locs ls2 hP hD hS hl2)
    · intro H locs ls hP hD hS hl
      exact lv_astoreN hx hb hd hl hn hs (fun ls2 hl2 => kk H locs ls2 hP hD hS hl2)
theorem zx_iinc (C : ZC G Y cc own nm ret rm nl) {i : Nat} {n : Int} {v x : Int32} {lv1 : List (Nat × Value)} (hd : zd_i cc pc i n v pc1) (hn : i < nl) (hg : zg lv i = some (.int x)) (hs : zs1 i (.int (x + v)) lv = lv1) (kk : ZV G Y kc ks pc1 lv1 st w) : ZV G Y kc ks pc lv st w := by
  obtain ⟨l, D, cA, B, t⟩ := G
  obtain ⟨p, e, R, s, m, args, below, meth, c, Q, nL⟩ := Y
  obtain ⟨hx, hb, hml, hnl, hown, hts, hK, hlk, hr, hnm, hR, hB, hZ, hN, hO, hCa⟩ := C
  subst hnl
  obtain ⟨hd, hv, rfl⟩ := hd
  obtain ⟨k, hk⟩ := List.getElem?_of_mem (zg_mem hg)
  intro H locs ls hP hD hS hl
  exact lv_iinc hx hb hd hl hk (by rw [hv]) hn hs (fun ls2 hl2 => kk H locs ls2 hP hD hS hl2)
theorem zx_ic (C : ZC G Y cc own nm ret rm nl) {v : Int32} (hd : zd_k cc own pc v pc1) (kk : ZV G Y kc ks pc1 lv (.int v :: st) w) : ZV G Y kc ks pc lv st w := by
  obtain ⟨l, D, cA, B, t⟩ := G
  obtain ⟨p, e, R, s, m, args, below, meth, c, Q, nL⟩ := Y
  obtain ⟨hx, hb, hml, hnl, hown, hts, hK, hlk, hr, hnm, hR, hB, hZ, hN, hO, hCa⟩ := C
  rcases hd with ⟨n, hd, hv, rfl⟩ | ⟨n, hd, hv, rfl⟩ | ⟨n, hd, hv, rfl⟩ | ⟨ix, hd, hv, rfl⟩
  · intro H locs ls hP hD hS hl
    exact lv_iconst hx hb hd hv (kk H locs ls hP hD hS hl)
  · intro H locs ls hP hD hS hl
    exact lv_bipush hx hb hd hv (kk H locs ls hP hD hS hl)
  · intro H locs ls hP hD hS hl
    exact lv_sipush hx hb hd hv (kk H locs ls hP hD hS hl)
  · intro H locs ls hP hD hS hl
    exact lv_ldcw hx hb hown (hts _ hv) hd (kk H locs ls hP hD hS hl)
theorem zx_lc (C : ZC G Y cc own nm ret rm nl) {v : Int64} (hd : zd_kl cc own pc v pc1) (kk : ZV G Y kc ks pc1 lv (.long v :: st) w) : ZV G Y kc ks pc lv st w := by
  obtain ⟨l, D, cA, B, t⟩ := G
  obtain ⟨p, e, R, s, m, args, below, meth, c, Q, nL⟩ := Y
  obtain ⟨hx, hb, hml, hnl, hown, hts, hK, hlk, hr, hnm, hR, hB, hZ, hN, hO, hCa⟩ := C
  rcases hd with ⟨n, hd, hv, rfl⟩ | ⟨ix, hd, hv, rfl⟩
  · intro H locs ls hP hD hS hl
    exact lv_lconst hx hb hd hv (kk H locs ls hP hD hS hl)
  · intro H locs ls hP hD hS hl
    exact lv_ldc2 hx hb hown (hts _ hv) hd (kk H locs ls hP hD hS hl)
theorem zx_if_eq (C : ZC G Y cc own nm ret rm nl) {x : Int32} {tg : Nat} (hd : zd_b cc pc (.ifCond .eq) pc1 tg) (kt : x = 0 → ZV G Y kc ks tg lv st w) (kf : ¬ x = 0 → ZV G Y kc ks pc1 lv st w) : ZV G Y kc ks pc lv (.int x :: st) w := by
  obtain ⟨l, D, cA, B, t⟩ := G
  obtain ⟨p, e, R, s, m, args, below, meth, c, Q, nL⟩ := Y
  obtain ⟨hx, hb, hml, hnl, hown, hts, hK, hlk, hr, hnm, hR, hB, hZ, hN, hO, hCa⟩ := C
  obtain ⟨off, hd, ht, rfl⟩ := hd
  intro H locs ls hP hD hS hl
  exact lv_if_eq hx hb hd ht (fun z => kt z H locs ls hP hD hS hl) (fun z => kf z H locs ls hP hD hS hl)
theorem zx_ic_eq (C : ZC G Y cc own nm ret rm nl) {x y : Int32} {tg : Nat} (hd : zd_b cc pc (.if_icmp .eq) pc1 tg) (kt : x = y → ZV G Y kc ks tg lv st w) (kf : ¬ x = y → ZV G Y kc ks pc1 lv st w) : ZV G Y kc ks pc lv (.int y :: .int x :: st) w := by
  obtain ⟨l, D, cA, B, t⟩ := G
  obtain ⟨p, e, R, s, m, args, below, meth, c, Q, nL⟩ := Y
  obtain ⟨hx, hb, hml, hnl, hown, hts, hK, hlk, hr, hnm, hR, hB, hZ, hN, hO, hCa⟩ := C
  obtain ⟨off, hd, ht, rfl⟩ := hd
  intro H locs ls hP hD hS hl
  exact lv_icmp_eq hx hb hd ht (fun z => kt z H locs ls hP hD hS hl) (fun z => kf z H locs ls hP hD hS hl)
theorem zx_if_ne (C : ZC G Y cc own nm ret rm nl) {x : Int32} {tg : Nat} (hd : zd_b cc pc (.ifCond .ne) pc1 tg) (kt : ¬ x = 0 → ZV G Y kc ks tg lv st w) (kf : x = 0 → ZV G Y kc ks pc1 lv st w) : ZV G Y kc ks pc lv (.int x :: st) w := by
  obtain ⟨l, D, cA, B, t⟩ := G
  obtain ⟨p, e, R, s, m, args, below, meth, c, Q, nL⟩ := Y
  obtain ⟨hx, hb, hml, hnl, hown, hts, hK, hlk, hr, hnm, hR, hB, hZ, hN, hO, hCa⟩ := C
  obtain ⟨off, hd, ht, rfl⟩ := hd
  intro H locs ls hP hD hS hl
  exact lv_if_ne hx hb hd ht (fun z => kt z H locs ls hP hD hS hl) (fun z => kf z H locs ls hP hD hS hl)
theorem zx_ic_ne (C : ZC G Y cc own nm ret rm nl) {x y : Int32} {tg : Nat} (hd : zd_b cc pc (.if_icmp .ne) pc1 tg) (kt : ¬ x = y → ZV G Y kc ks tg lv st w) (kf : x = y → ZV G Y kc ks pc1 lv st w) : ZV G Y kc ks pc lv (.int y :: .int x :: st) w := by
  obtain ⟨l, D, cA, B, t⟩ := G
  obtain ⟨p, e, R, s, m, args, below, meth, c, Q, nL⟩ := Y
  obtain ⟨hx, hb, hml, hnl, hown, hts, hK, hlk, hr, hnm, hR, hB, hZ, hN, hO, hCa⟩ := C
  obtain ⟨off, hd, ht, rfl⟩ := hd
  intro H locs ls hP hD hS hl
  exact lv_icmp_ne hx hb hd ht (fun z => kt z H locs ls hP hD hS hl) (fun z => kf z H locs ls hP hD hS hl)
theorem zx_if_lt (C : ZC G Y cc own nm ret rm nl) {x : Int32} {tg : Nat} (hd : zd_b cc pc (.ifCond .lt) pc1 tg) (kt : x < 0 → ZV G Y kc ks tg lv st w) (kf : ¬ x < 0 → ZV G Y kc ks pc1 lv st w) : ZV G Y kc ks pc lv (.int x :: st) w := by
  obtain ⟨l, D, cA, B, t⟩ := G
  obtain ⟨p, e, R, s, m, args, below, meth, c, Q, nL⟩ := Y
  obtain ⟨hx, hb, hml, hnl, hown, hts, hK, hlk, hr, hnm, hR, hB, hZ, hN, hO, hCa⟩ := C
  obtain ⟨off, hd, ht, rfl⟩ := hd
  intro H locs ls hP hD hS hl
  exact lv_if_lt hx hb hd ht (fun z => kt z H locs ls hP hD hS hl) (fun z => kf z H locs ls hP hD hS hl)
theorem zx_ic_lt (C : ZC G Y cc own nm ret rm nl) {x y : Int32} {tg : Nat} (hd : zd_b cc pc (.if_icmp .lt) pc1 tg) (kt : x < y → ZV G Y kc ks tg lv st w) (kf : ¬ x < y → ZV G Y kc ks pc1 lv st w) : ZV G Y kc ks pc lv (.int y :: .int x :: st) w := by
  obtain ⟨l, D, cA, B, t⟩ := G
  obtain ⟨p, e, R, s, m, args, below, meth, c, Q, nL⟩ := Y
  obtain ⟨hx, hb, hml, hnl, hown, hts, hK, hlk, hr, hnm, hR, hB, hZ, hN, hO, hCa⟩ := C
  obtain ⟨off, hd, ht, rfl⟩ := hd
  intro H locs ls hP hD hS hl
  exact lv_icmp_lt hx hb hd ht (fun z => kt z H locs ls hP hD hS hl) (fun z => kf z H locs ls hP hD hS hl)
theorem zx_if_ge (C : ZC G Y cc own nm ret rm nl) {x : Int32} {tg : Nat} (hd : zd_b cc pc (.ifCond .ge) pc1 tg) (kt : 0 ≤ x → ZV G Y kc ks tg lv st w) (kf : ¬ 0 ≤ x → ZV G Y kc ks pc1 lv st w) : ZV G Y kc ks pc lv (.int x :: st) w := by
  obtain ⟨l, D, cA, B, t⟩ := G
  obtain ⟨p, e, R, s, m, args, below, meth, c, Q, nL⟩ := Y
  obtain ⟨hx, hb, hml, hnl, hown, hts, hK, hlk, hr, hnm, hR, hB, hZ, hN, hO, hCa⟩ := C
  obtain ⟨off, hd, ht, rfl⟩ := hd
  intro H locs ls hP hD hS hl
  exact lv_if_ge hx hb hd ht (fun z => kt z H locs ls hP hD hS hl) (fun z => kf z H locs ls hP hD hS hl)
theorem zx_ic_ge (C : ZC G Y cc own nm ret rm nl) {x y : Int32} {tg : Nat} (hd : zd_b cc pc (.if_icmp .ge) pc1 tg) (kt : y ≤ x → ZV G Y kc ks tg lv st w) (kf : ¬ y ≤ x → ZV G Y kc ks pc1 lv st w) : ZV G Y kc ks pc lv (.int y :: .int x :: st) w := by
  obtain ⟨l, D, cA, B, t⟩ := G
  obtain ⟨p, e, R, s, m, args, below, meth, c, Q, nL⟩ := Y
  obtain ⟨hx, hb, hml, hnl, hown, hts, hK, hlk, hr, hnm, hR, hB, hZ, hN, hO, hCa⟩ := C
  obtain ⟨off, hd, ht, rfl⟩ := hd
  intro H locs ls hP hD hS hl
  exact lv_icmp_ge hx hb hd ht (fun z => kt z H locs ls hP hD hS hl) (fun z => kf z H locs ls hP hD hS hl)
theorem zx_if_gt (C : ZC G Y cc own nm ret rm nl) {x : Int32} {tg : Nat} (hd : zd_b cc pc (.ifCond .gt) pc1 tg) (kt : 0 < x → ZV G Y kc ks tg lv st w) (kf : ¬ 0 < x → ZV G Y kc ks pc1 lv st w) : ZV G Y kc ks pc lv (.int x :: st) w := by
  obtain ⟨l, D, cA, B, t⟩ := G
  obtain ⟨p, e, R, s, m, args, below, meth, c, Q, nL⟩ := Y
  obtain ⟨hx, hb, hml, hnl, hown, hts, hK, hlk, hr, hnm, hR, hB, hZ, hN, hO, hCa⟩ := C
  obtain ⟨off, hd, ht, rfl⟩ := hd
  intro H locs ls hP hD hS hl
  exact lv_if_gt hx hb hd ht (fun z => kt z H locs ls hP hD hS hl) (fun z => kf z H locs ls hP hD hS hl)
theorem zx_ic_gt (C : ZC G Y cc own nm ret rm nl) {x y : Int32} {tg : Nat} (hd : zd_b cc pc (.if_icmp .gt) pc1 tg) (kt : y < x → ZV G Y kc ks tg lv st w) (kf : ¬ y < x → ZV G Y kc ks pc1 lv st w) : ZV G Y kc ks pc lv (.int y :: .int x :: st) w := by
  obtain ⟨l, D, cA, B, t⟩ := G
  obtain ⟨p, e, R, s, m, args, below, meth, c, Q, nL⟩ := Y
  obtain ⟨hx, hb, hml, hnl, hown, hts, hK, hlk, hr, hnm, hR, hB, hZ, hN, hO, hCa⟩ := C
  obtain ⟨off, hd, ht, rfl⟩ := hd
  intro H locs ls hP hD hS hl
  exact lv_icmp_gt hx hb hd ht (fun z => kt z H locs ls hP hD hS hl) (fun z => kf z H locs ls hP hD hS hl)
theorem zx_if_le (C : ZC G Y cc own nm ret rm nl) {x : Int32} {tg : Nat} (hd : zd_b cc pc (.ifCond .le) pc1 tg) (kt : x ≤ 0 → ZV G Y kc ks tg lv st w) (kf : ¬ x ≤ 0 → ZV G Y kc ks pc1 lv st w) : ZV G Y kc ks pc lv (.int x :: st) w := by
  obtain ⟨l, D, cA, B, t⟩ := G
  obtain ⟨p, e, R, s, m, args, below, meth, c, Q, nL⟩ := Y
  obtain ⟨hx, hb, hml, hnl, hown, hts, hK, hlk, hr, hnm, hR, hB, hZ, hN, hO, hCa⟩ := C
  obtain ⟨off, hd, ht, rfl⟩ := hd
  intro H locs ls hP hD hS hl
  exact lv_if_le hx hb hd ht (fun z => kt z H locs ls hP hD hS hl) (fun z => kf z H locs ls hP hD hS hl)
theorem zx_ic_le (C : ZC G Y cc own nm ret rm nl) {x y : Int32} {tg : Nat} (hd : zd_b cc pc (.if_icmp .le) pc1 tg) (kt : x ≤ y → ZV G Y kc ks tg lv st w) (kf : ¬ x ≤ y → ZV G Y kc ks pc1 lv st w) : ZV G Y kc ks pc lv (.int y :: .int x :: st) w := by
  obtain ⟨l, D, cA, B, t⟩ := G
  obtain ⟨p, e, R, s, m, args, below, meth, c, Q, nL⟩ := Y
  obtain ⟨hx, hb, hml, hnl, hown, hts, hK, hlk, hr, hnm, hR, hB, hZ, hN, hO, hCa⟩ := C
  obtain ⟨off, hd, ht, rfl⟩ := hd
  intro H locs ls hP hD hS hl
  exact lv_icmp_le hx hb hd ht (fun z => kt z H locs ls hP hD hS hl) (fun z => kf z H locs ls hP hD hS hl)
theorem zx_goto (C : ZC G Y cc own nm ret rm nl) {tg : Nat} (hd : zd_b cc pc .goto pc1 tg) (kk : ZV G Y kc ks tg lv st w) : ZV G Y kc ks pc lv st w := by
  obtain ⟨l, D, cA, B, t⟩ := G
  obtain ⟨p, e, R, s, m, args, below, meth, c, Q, nL⟩ := Y
  obtain ⟨hx, hb, hml, hnl, hown, hts, hK, hlk, hr, hnm, hR, hB, hZ, hN, hO, hCa⟩ := C
  obtain ⟨off, hd, ht, rfl⟩ := hd
  intro H locs ls hP hD hS hl
  exact lv_goto hx hb hd ht (kk H locs ls hP hD hS hl)
theorem zx_ifnull (C : ZC G Y cc own nm ret rm nl) {r : Option Nat} {tg : Nat} (hd : zd_b cc pc .ifnull pc1 tg) (kt : r = none → ZV G Y kc ks tg lv st w) (kf : ∀ a, r = some a → ZV G Y kc ks pc1 lv st w) : ZV G Y kc ks pc lv (va_rf r :: st) w := by
  obtain ⟨l, D, cA, B, t⟩ := G
  obtain ⟨p, e, R, s, m, args, below, meth, c, Q, nL⟩ := Y
  obtain ⟨hx, hb, hml, hnl, hown, hts, hK, hlk, hr, hnm, hR, hB, hZ, hN, hO, hCa⟩ := C
  obtain ⟨off, hd, ht, rfl⟩ := hd
  intro H locs ls hP hD hS hl
  cases r with
  | none => exact lv_ifnullN hx hb hd ht (kt rfl H locs ls hP hD hS hl)
  | some a => exact lv_ifnull hx hb hd (kf a rfl H locs ls hP hD hS hl)
theorem zx_ifnonnull (C : ZC G Y cc own nm ret rm nl) {r : Option Nat} {tg : Nat} (hd : zd_b cc pc .ifnonnull pc1 tg) (kt : ∀ a, r = some a → ZV G Y kc ks tg lv st w) (kf : r = none → ZV G Y kc ks pc1 lv st w) : ZV G Y kc ks pc lv (va_rf r :: st) w := by
  obtain ⟨l, D, cA, B, t⟩ := G
  obtain ⟨p, e, R, s, m, args, below, meth, c, Q, nL⟩ := Y
  obtain ⟨hx, hb, hml, hnl, hown, hts, hK, hlk, hr, hnm, hR, hB, hZ, hN, hO, hCa⟩ := C
  obtain ⟨off, hd, ht, rfl⟩ := hd
  intro H locs ls hP hD hS hl
  cases r with
  | none => exact lv_ifnonnullN hx hb hd (kf rfl H locs ls hP hD hS hl)
  | some a => exact lv_ifnonnull hx hb hd ht (kt a rfl H locs ls hP hD hS hl)
theorem zx_ifnullR (C : ZC G Y cc own nm ret rm nl) {a : Nat} {tg : Nat} (hd : zd_b cc pc .ifnull pc1 tg) (kk : ZV G Y kc ks pc1 lv st w) : ZV G Y kc ks pc lv (.ref a :: st) w := by
  obtain ⟨l, D, cA, B, t⟩ := G
  obtain ⟨p, e, R, s, m, args, below, meth, c, Q, nL⟩ := Y
  obtain ⟨hx, hb, hml, hnl, hown, hts, hK, hlk, hr, hnm, hR, hB, hZ, hN, hO, hCa⟩ := C
  obtain ⟨off, hd, ht, rfl⟩ := hd
  intro H locs ls hP hD hS hl
  exact lv_ifnull hx hb hd (kk H locs ls hP hD hS hl)
theorem zx_ifnonnullR (C : ZC G Y cc own nm ret rm nl) {a : Nat} {tg : Nat} (hd : zd_b cc pc .ifnonnull pc1 tg) (kk : ZV G Y kc ks tg lv st w) : ZV G Y kc ks pc lv (.ref a :: st) w := by
  obtain ⟨l, D, cA, B, t⟩ := G
  obtain ⟨p, e, R, s, m, args, below, meth, c, Q, nL⟩ := Y
  obtain ⟨hx, hb, hml, hnl, hown, hts, hK, hlk, hr, hnm, hR, hB, hZ, hN, hO, hCa⟩ := C
  obtain ⟨off, hd, ht, rfl⟩ := hd
  intro H locs ls hP hD hS hl
  exact lv_ifnonnull hx hb hd ht (kk H locs ls hP hD hS hl)
theorem zx_ifnullN (C : ZC G Y cc own nm ret rm nl) {tg : Nat} (hd : zd_b cc pc .ifnull pc1 tg) (kk : ZV G Y kc ks tg lv st w) : ZV G Y kc ks pc lv (.null :: st) w := by
  obtain ⟨l, D, cA, B, t⟩ := G
  obtain ⟨p, e, R, s, m, args, below, meth, c, Q, nL⟩ := Y
  obtain ⟨hx, hb, hml, hnl, hown, hts, hK, hlk, hr, hnm, hR, hB, hZ, hN, hO, hCa⟩ := C
  obtain ⟨off, hd, ht, rfl⟩ := hd
  intro H locs ls hP hD hS hl
  exact lv_ifnullN hx hb hd ht (kk H locs ls hP hD hS hl)
theorem zx_ifnonnullN (C : ZC G Y cc own nm ret rm nl) {tg : Nat} (hd : zd_b cc pc .ifnonnull pc1 tg) (kk : ZV G Y kc ks pc1 lv st w) : ZV G Y kc ks pc lv (.null :: st) w := by
  obtain ⟨l, D, cA, B, t⟩ := G
  obtain ⟨p, e, R, s, m, args, below, meth, c, Q, nL⟩ := Y
  obtain ⟨hx, hb, hml, hnl, hown, hts, hK, hlk, hr, hnm, hR, hB, hZ, hN, hO, hCa⟩ := C
  obtain ⟨off, hd, ht, rfl⟩ := hd
  intro H locs ls hP hD hS hl
  exact lv_ifnonnullN hx hb hd (kk H locs ls hP hD hS hl)
theorem zx_table (C : ZC G Y cc own nm ret rm nl) {x : Int32} {dflt lo hi : Int} {offs : Array Int} {len : Nat} (hd : decode cc pc = .ok (.tableswitch dflt lo hi offs, len)) (ko : x.toInt < lo ∨ hi < x.toInt → ∃ tg : Nat, (pc : Int) + dflt = (tg : Int) ∧ ZV G Y kc ks tg lv st w) (ki : ¬ x.toInt < lo → ¬ hi < x.toInt → ∃ (off : Int) (tg : Nat), offs[(x.toInt - lo).toNat]? = some off ∧ (pc : Int) + off = (tg : Int) ∧ ZV G Y kc ks tg lv st w) : ZV G Y kc ks pc lv (.int x :: st) w := by
  obtain ⟨l, D, cA, B, t⟩ := G
  obtain ⟨p, e, R, s, m, args, below, meth, c, Q, nL⟩ := Y
  obtain ⟨hx, hb, hml, hnl, hown, hts, hK, hlk, hr, hnm, hR, hB, hZ, hN, hO, hCa⟩ := C
  intro H locs ls hP hD hS hl
  by_cases h1 : x.toInt < lo ∨ hi < x.toInt
  · obtain ⟨tg, ht, kk⟩ := ko h1
    exact lv_tableOut hx hb hd h1 ht (kk H locs ls hP hD hS hl)
  · obtain ⟨off, tg, ho, ht, kk⟩ := ki (fun z => h1 (Or.inl z)) (fun z => h1 (Or.inr z))
    exact lv_tableIn hx hb hd (fun z => h1 (Or.inl z)) (fun z => h1 (Or.inr z)) ho ht (kk H locs ls hP hD hS hl)
theorem zx_lookup (C : ZC G Y cc own nm ret rm nl) {x : Int32} {dflt : Int} {pz : Array (Int × Int)} {len : Nat} (hd : decode cc pc = .ok (.lookupswitch dflt pz, len)) (hp : (pz.toList.zip (pz.toList.drop 1)).all (fun (a, next) => a.1 < next.1) = true) (ki : ∃ tg : Nat, (pc : Int) + Op.lookupswitch.offset pz.toList dflt x.toInt = (tg : Int) ∧ ZV G Y kc ks tg lv st w) : ZV G Y kc ks pc lv (.int x :: st) w := by
  obtain ⟨l, D, cA, B, t⟩ := G
  obtain ⟨p, e, R, s, m, args, below, meth, c, Q, nL⟩ := Y
  obtain ⟨hx, hb, hml, hnl, hown, hts, hK, hlk, hr, hnm, hR, hB, hZ, hN, hO, hCa⟩ := C
  intro H locs ls hP hD hS hl
  obtain ⟨tg, ht, kk⟩ := ki
  exact lv_lookup hx hb hd hp rfl ht (kk H locs ls hP hD hS hl)
theorem zx_get (C : ZC G Y cc own nm ret rm nl) {idx ci k : Nat} (hf : zb_FL own idx ci k) (hd : zd cc pc (.getfield idx) 3 pc1) (q : Nat) {a : Nat} {fs : List Value} (hw : w[q]? = some (a, .inr (ci, fs))) {v : Value} (hv : fs[k]? = some v) (kk : ZV G Y kc ks pc1 lv (v :: st) w) : ZV G Y kc ks pc lv (.ref a :: st) w := by
  obtain ⟨l, D, cA, B, t⟩ := G
  obtain ⟨p, e, R, s, m, args, below, meth, c, Q, nL⟩ := Y
  obtain ⟨hx, hb, hml, hnl, hown, hts, hK, hlk, hr, hnm, hR, hB, hZ, hN, hO, hCa⟩ := C
  obtain ⟨hd, rfl⟩ := hd
  obtain ⟨Cn, T, N, ref, h1, h2, h3, h4, h5⟩ := hf
  intro H locs ls hP hD hS hl
  exact va_get (C := Cn) (T := T) (N := N) hx hb hts h3 hown hK hP q hw h1 k h2 (hts _ h4) (fun x hx2 => h5.elim (fun z => by rw [z]; exact hx2) (fun z => u_same (hts _ z) x hx2)) hv hd (kk H locs ls hP hD hS hl)
theorem zx_put (C : ZC G Y cc own nm ret rm nl) {idx ci k : Nat} {ty : FieldType} {w1 : va_W} (hf : zb_PL own idx ci k ty) (hd : zd cc pc (.putfield idx) 3 pc1) (q : Nat) {a : Nat} {fs : List Value} (hw : w[q]? = some (a, .inr (ci, fs))) {v : Value} (hv : zb_fit ty v) (hk : k < fs.length) (hs : w.set q (a, .inr (ci, fs.set k v)) = w1) (kk : ZV G Y kc ks pc1 lv st w1) : ZV G Y kc ks pc lv (v :: .ref a :: st) w := by
  obtain ⟨l, D, cA, B, t⟩ := G
  obtain ⟨p, e, R, s, m, args, below, meth, c, Q, nL⟩ := Y
  obtain ⟨hx, hb, hml, hnl, hown, hts, hK, hlk, hr, hnm, hR, hB, hZ, hN, hO, hCa⟩ := C
  obtain ⟨hd, rfl⟩ := hd
  obtain ⟨Cn, T, N, ref, ty0, h1, h2, h3, h4, h5, h6, h7, h8, h9⟩ := hf
  subst hs
  intro H locs ls hP hD hS hl
  exact va_put (C := Cn) (T := T) (N := N) hx hb hts h3 ty0 h6 h7 hown hK hP hD hS q hw h1 k h2 (hts _ h4) (fun x hx2 => h5.elim (fun z => by rw [z]; exact hx2) (fun z => u_same (hts _ z) x hx2)) h8 h9 hv.1 hv.2 hk hd (fun H1 locs1 hP1 hD1 hS1 => kk H1 locs1 ls hP1 hD1 hS1 hl)
theorem zx_putF (C : ZC G Y cc own nm ret rm nl) {idx ci k : Nat} {ty : FieldType} {w1 : va_W} (hi : nm = "<init>") (hf : zb_PF own idx ci k ty) (hd : zd cc pc (.putfield idx) 3 pc1) (q : Nat) {a : Nat} {fs : List Value} (hw : w[q]? = some (a, .inr (ci, fs))) {v : Value} (hv : zb_fit ty v) (hk : k < fs.length) (hs : w.set q (a, .inr (ci, fs.set k v)) = w1) (kk : ZV G Y kc ks pc1 lv st w1) : ZV G Y kc ks pc lv (v :: .ref a :: st) w := by
  obtain ⟨l, D, cA, B, t⟩ := G
  obtain ⟨p, e, R, s, m, args, below, meth, c, Q, nL⟩ := Y
  obtain ⟨hx, hb, hml, hnl, hown, hts, hK, hlk, hr, hnm, hR, hB, hZ, hN, hO, hCa⟩ := C
  obtain ⟨hd, rfl⟩ := hd
  obtain ⟨Cn, T, N, ref, ty0, h1, h2, h3, h4, h5, h6, h7, h8, h9, h10⟩ := hf
  subst hs
  intro H locs ls hP hD hS hl
  exact va_putF (C := Cn) (T := T) (N := N) hx hb hts h3 ty0 h6 h7 hown hK hP hD hS q hw h1 k h2 (hts _ h4) (fun x hx2 => h5.elim (fun z => by rw [z]; exact hx2) (fun z => u_same (hts _ z) x hx2)) h8 (hnm.trans hi) h10 h9 hv.1 hv.2 hk hd (fun H1 locs1 hP1 hD1 hS1 => kk H1 locs1 ls hP1 hD1 hS1 hl)
theorem zx_iald (C : ZC G Y cc own nm ret rm nl) {n : Nat} {f : Nat → Int32} {i : Int32} (hd : zd cc pc .iaload 1 pc1) (q : Nat) {a : Nat} (hw : w[q]? = some (a, .inl (zc G 0, n, .inl f))) (j : Nat) (hi : i = nI j) (hj : j < n) (hn : n < 2 ^ 31) (kk : ZV G Y kc ks pc1 lv (.int (f j) :: st) w) : ZV G Y kc ks pc lv (.int i :: .ref a :: st) w := by
  obtain ⟨l, D, cA, B, t⟩ := G
  obtain ⟨p, e, R, s, m, args, below, meth, c, Q, nL⟩ := Y
  obtain ⟨hx, hb, hml, hnl, hown, hts, hK, hlk, hr, hnm, hR, hB, hZ, hN, hO, hCa⟩ := C
  obtain ⟨hd, rfl⟩ := hd
  subst hi
  intro H locs ls hP hD hS hl
  refine va_iald hx hb hK hP q 0 hw rfl (vp_in_nI hj hn) hd ?_
  rw [nI_clamp (Nat.lt_trans hj hn)]
  exact kk H locs ls hP hD hS hl
theorem zx_zald (C : ZC G Y cc own nm ret rm nl) {n : Nat} {f : Nat → Int32} {i : Int32} (hd : zd cc pc .baload 1 pc1) (q : Nat) {a : Nat} (hw : w[q]? = some (a, .inl (zc G 1, n, .inl f))) (j : Nat) (hi : i = nI j) (hj : j < n) (hn : n < 2 ^ 31) (kk : ZV G Y kc ks pc1 lv (.int (f j) :: st) w) : ZV G Y kc ks pc lv (.int i :: .ref a :: st) w := by
  obtain ⟨l, D, cA, B, t⟩ := G
  obtain ⟨p, e, R, s, m, args, below, meth, c, Q, nL⟩ := Y
  obtain ⟨hx, hb, hml, hnl, hown, hts, hK, hlk, hr, hnm, hR, hB, hZ, hN, hO, hCa⟩ := C
  obtain ⟨hd, rfl⟩ := hd
  subst hi
  intro H locs ls hP hD hS hl
  refine va_zald hx hb hK hP q 1 hw rfl (vp_in_nI hj hn) hd ?_
  rw [nI_clamp (Nat.lt_trans hj hn)]
  exact kk H locs ls hP hD hS hl
theorem zx_lald (C : ZC G Y cc own nm ret rm nl) {n : Nat} {f : Nat → Int64} {i : Int32} (hd : zd cc pc .laload 1 pc1) (q : Nat) {a : Nat} (hw : w[q]? = some (a, .inl (zc G 2, n, .inr (.inl f)))) (j : Nat) (hi : i = nI j) (hj : j < n) (hn : n < 2 ^ 31) (kk : ZV G Y kc ks pc1 lv (.long (f j) :: st) w) : ZV G Y kc ks pc lv (.int i :: .ref a :: st) w := by
  obtain ⟨l, D, cA, B, t⟩ := G
  obtain ⟨p, e, R, s, m, args, below, meth, c, Q, nL⟩ := Y
  obtain ⟨hx, hb, hml, hnl, hown, hts, hK, hlk, hr, hnm, hR, hB, hZ, hN, hO, hCa⟩ := C
  obtain ⟨hd, rfl⟩ := hd
  subst hi
  intro H locs ls hP hD hS hl
  refine va_lald hx hb hK hP q 2 hw rfl (vp_in_nI hj hn) hd ?_
  rw [nI_clamp (Nat.lt_trans hj hn)]
  exact kk H locs ls hP hD hS hl
theorem zx_aald3 (C : ZC G Y cc own nm ret rm nl) {n : Nat} {f : Nat → Option Nat} {i : Int32} (hd : zd cc pc .aaload 1 pc1) (q : Nat) {a : Nat} (hw : w[q]? = some (a, .inl (zc G 3, n, .inr (.inr (.inr (.inr f)))))) (j : Nat) (hi : i = nI j) (hj : j < n) (hn : n < 2 ^ 31) (kk : ZV G Y kc ks pc1 lv (va_rf (f j) :: st) w) : ZV G Y kc ks pc lv (.int i :: .ref a :: st) w := by
  obtain ⟨l, D, cA, B, t⟩ := G
  obtain ⟨p, e, R, s, m, args, below, meth, c, Q, nL⟩ := Y
  obtain ⟨hx, hb, hml, hnl, hown, hts, hK, hlk, hr, hnm, hR, hB, hZ, hN, hO, hCa⟩ := C
  obtain ⟨hd, rfl⟩ := hd
  subst hi
  intro H locs ls hP hD hS hl
  refine va_aldq hx hb hK hP q 3 hw rfl (vp_in_nI hj hn) hd ?_
  rw [nI_clamp (Nat.lt_trans hj hn)]
  exact kk H locs ls hP hD hS hl
theorem zx_aald4 (C : ZC G Y cc own nm ret rm nl) {n : Nat} {f : Nat → Option Nat} {i : Int32} (hd : zd cc pc .aaload 1 pc1) (q : Nat) {a : Nat} (hw : w[q]? = some (a, .inl (zc G 4, n, .inr (.inr (.inr (.inr f)))))) (j : Nat) (hi : i = nI j) (hj : j < n) (hn : n < 2 ^ 31) (kk : ZV G Y kc ks pc1 lv (va_rf (f j) :: st) w) : ZV G Y kc ks pc lv (.int i :: .ref a :: st) w := by
  obtain ⟨l, D, cA, B, t⟩ := G
  obtain ⟨p, e, R, s, m, args, below, meth, c, Q, nL⟩ := Y
  obtain ⟨hx, hb, hml, hnl, hown, hts, hK, hlk, hr, hnm, hR, hB, hZ, hN, hO, hCa⟩ := C
  obtain ⟨hd, rfl⟩ := hd
  subst hi
  intro H locs ls hP hD hS hl
  refine va_aldq hx hb hK hP q 4 hw rfl (vp_in_nI hj hn) hd ?_
  rw [nI_clamp (Nat.lt_trans hj hn)]
  exact kk H locs ls hP hD hS hl
theorem zx_aald5 (C : ZC G Y cc own nm ret rm nl) {n : Nat} {f : Nat → Option Nat} {i : Int32} (hd : zd cc pc .aaload 1 pc1) (q : Nat) {a : Nat} (hw : w[q]? = some (a, .inl (zc G 5, n, .inr (.inr (.inr (.inr f)))))) (j : Nat) (hi : i = nI j) (hj : j < n) (hn : n < 2 ^ 31) (kk : ZV G Y kc ks pc1 lv (va_rf (f j) :: st) w) : ZV G Y kc ks pc lv (.int i :: .ref a :: st) w := by
  obtain ⟨l, D, cA, B, t⟩ := G
  obtain ⟨p, e, R, s, m, args, below, meth, c, Q, nL⟩ := Y
  obtain ⟨hx, hb, hml, hnl, hown, hts, hK, hlk, hr, hnm, hR, hB, hZ, hN, hO, hCa⟩ := C
  obtain ⟨hd, rfl⟩ := hd
  subst hi
  intro H locs ls hP hD hS hl
  refine va_aldq hx hb hK hP q 5 hw rfl (vp_in_nI hj hn) hd ?_
  rw [nI_clamp (Nat.lt_trans hj hn)]
  exact kk H locs ls hP hD hS hl
theorem zx_iast (C : ZC G Y cc own nm ret rm nl) {n : Nat} {f : Nat → Int32} {i : Int32} {x : Int32} {w1 : va_W} (hd : zd cc pc .iastore 1 pc1) (q : Nat) {a : Nat} (hw : w[q]? = some (a, .inl (zc G 0, n, .inl f))) (j : Nat) (hi : i = nI j) (hj : j < n) (hn : n < 2 ^ 31) (hs : w.set q (a, .inl (zc G 0, n, .inl (upd f j x))) = w1) (kk : ZV G Y kc ks pc1 lv st w1) : ZV G Y kc ks pc lv (.int x :: .int i :: .ref a :: st) w := by
  obtain ⟨l, D, cA, B, t⟩ := G
  obtain ⟨p, e, R, s, m, args, below, meth, c, Q, nL⟩ := Y
  obtain ⟨hx, hb, hml, hnl, hown, hts, hK, hlk, hr, hnm, hR, hB, hZ, hN, hO, hCa⟩ := C
  obtain ⟨hd, rfl⟩ := hd
  subst hi
  subst hs
  intro H locs ls hP hD hS hl
  refine va_iast hx hb hK hP hD hS q 0 hw rfl (vp_in_nI hj hn) hd ?_
  rw [nI_clamp (Nat.lt_trans hj hn)]
  exact fun H1 locs1 hP1 hD1 hS1 => kk H1 locs1 ls hP1 hD1 hS1 hl
theorem zx_last (C : ZC G Y cc own nm ret rm nl) {n : Nat} {f : Nat → Int64} {i : Int32} {x : Int64} {w1 : va_W} (hd : zd cc pc .lastore 1 pc1) (q : Nat) {a : Nat} (hw : w[q]? = some (a, .inl (zc G 2, n, .inr (.inl f)))) (j : Nat) (hi : i = nI j) (hj : j < n) (hn : n < 2 ^ 31) (hs : w.set q (a, .inl (zc G 2, n, .inr (.inl (vp_updL f j x)))) = w1) (kk : ZV G Y kc ks pc1 lv st w1) : ZV G Y kc ks pc lv (.long x :: .int i :: .ref a :: st) w := by
  obtain ⟨l, D, cA, B, t⟩ := G
  obtain ⟨p, e, R, s, m, args, below, meth, c, Q, nL⟩ := Y
  obtain ⟨hx, hb, hml, hnl, hown, hts, hK, hlk, hr, hnm, hR, hB, hZ, hN, hO, hCa⟩ := C
  obtain ⟨hd, rfl⟩ := hd
  subst hi
  subst hs
  intro H locs ls hP hD hS hl
  refine va_last hx hb hK hP hD hS q 2 hw rfl (vp_in_nI hj hn) hd ?_
  rw [nI_clamp (Nat.lt_trans hj hn)]
  exact fun H1 locs1 hP1 hD1 hS1 => kk H1 locs1 ls hP1 hD1 hS1 hl
theorem zx_zast (C : ZC G Y cc own nm ret rm nl) {n : Nat} {f : Nat → Int32} {i x : Int32} {w1 : va_W} (hd : zd cc pc .bastore 1 pc1) (q : Nat) {a : Nat} (hw : w[q]? = some (a, .inl (zc G 1, n, .inl f))) (j : Nat) (hi : i = nI j) (hj : j < n) (hn : n < 2 ^ 31) (hx01 : x = 0 ∨ x = 1) (hs : w.set q (a, .inl (zc G 1, n, .inl (upd f j x))) = w1) (kk : ZV G Y kc ks pc1 lv st w1) : ZV G Y kc ks pc lv (.int x :: .int i :: .ref a :: st) w := by
  obtain ⟨l, D, cA, B, t⟩ := G
  obtain ⟨p, e, R, s, m, args, below, meth, c, Q, nL⟩ := Y
  obtain ⟨hx, hb, hml, hnl, hown, hts, hK, hlk, hr, hnm, hR, hB, hZ, hN, hO, hCa⟩ := C
  obtain ⟨hd, rfl⟩ := hd
  subst hi
  subst hs
  have hx2 : vp_nar .boolean x = x := by rcases hx01 with rfl | rfl <;> rfl
  intro H locs ls hP hD hS hl
  refine va_zast hx hb hK hP hD hS q 1 hw rfl (vp_in_nI hj hn) hd ?_
  rw [nI_clamp (Nat.lt_trans hj hn), hx2]
  exact fun H1 locs1 hP1 hD1 hS1 => kk H1 locs1 ls hP1 hD1 hS1 hl
theorem zx_alen (C : ZC G Y cc own nm ret rm nl) {x : vp_A} {tix : Nat} {ty : FieldType} (hd : zd cc pc .arraylength 1 pc1) (q : Nat) {a : Nat} (hw : w[q]? = some (a, .inl (zc G tix, x))) (ht : (zb_tys (zc G))[tix]? = some (zc G tix, ty)) (kk : ZV G Y kc ks pc1 lv (.int (nI x.1) :: st) w) : ZV G Y kc ks pc lv (.ref a :: st) w := by
  obtain ⟨l, D, cA, B, t⟩ := G
  obtain ⟨p, e, R, s, m, args, below, meth, c, Q, nL⟩ := Y
  obtain ⟨hx, hb, hml, hnl, hown, hts, hK, hlk, hr, hnm, hR, hB, hZ, hN, hO, hCa⟩ := C
  obtain ⟨hd, rfl⟩ := hd
  intro H locs ls hP hD hS hl
  exact va_alen hx hb hK hP q tix hw ht rfl hd (kk H locs ls hP hD hS hl)
theorem zx_gets (C : ZC G Y cc own nm ret rm nl) {idx : Nat} (hf : Cond.fieldLink own idx "SameTuesday" "SO" "[J" ∈ zb_tb) (hd : zd cc pc (.getstatic idx) 3 pc1) (kk : ZV G Y kc ks pc1 lv (.ref (zso G) :: st) w) : ZV G Y kc ks pc lv st w := by
  obtain ⟨l, D, cA, B, t⟩ := G
  obtain ⟨p, e, R, s, m, args, below, meth, c, Q, nL⟩ := Y
  obtain ⟨hx, hb, hml, hnl, hown, hts, hK, hlk, hr, hnm, hR, hB, hZ, hN, hO, hCa⟩ := C
  obtain ⟨hd, rfl⟩ := hd
  intro H locs ls hP hD hS hl
  exact va_gets hx hb hZ.1 hS hown (hts _ hf) (fun _ h9 => h9) hd (kk H locs ls hP hD hS hl)
theorem zx_solen (C : ZC G Y cc own nm ret rm nl)  (hd : zd cc pc .arraylength 1 pc1) (kk : ZV G Y kc ks pc1 lv (.int 6 :: st) w) : ZV G Y kc ks pc lv (.ref (zso G) :: st) w := by
  obtain ⟨l, D, cA, B, t⟩ := G
  obtain ⟨p, e, R, s, m, args, below, meth, c, Q, nL⟩ := Y
  obtain ⟨hx, hb, hml, hnl, hown, hts, hK, hlk, hr, hnm, hR, hB, hZ, hN, hO, hCa⟩ := C
  obtain ⟨hd, rfl⟩ := hd
  intro H locs ls hP hD hS hl
  exact va_tlen hx hb hZ.2 hS rfl hd (kk H locs ls hP hD hS hl)
theorem zx_sold (C : ZC G Y cc own nm ret rm nl) {i : Int32} (hd : zd cc pc .laload 1 pc1) (j : Nat) (hi : i = nI j) (hj : j < 6) (kk : ZV G Y kc ks pc1 lv (.long (zb_so j) :: st) w) : ZV G Y kc ks pc lv (.int i :: .ref (zso G) :: st) w := by
  obtain ⟨l, D, cA, B, t⟩ := G
  obtain ⟨p, e, R, s, m, args, below, meth, c, Q, nL⟩ := Y
  obtain ⟨hx, hb, hml, hnl, hown, hts, hK, hlk, hr, hnm, hR, hB, hZ, hN, hO, hCa⟩ := C
  obtain ⟨hd, rfl⟩ := hd
  subst hi
  intro H locs ls hP hD hS hl
  refine va_tl hx hb hZ.2 hS (vp_in_nI hj (by decide)) rfl hd ?_
  rw [nI_clamp (Nat.lt_trans hj (by decide))]
  exact kk H locs ls hP hD hS hl
theorem zx_iret {post : Option Value → va_W → Prop} (C : ZC G Y cc own nm (some .int) rm nl) (hq : ZQ G Y post kc ks) {v : Int32} (hd : zd cc pc .ireturn 1 pc1) (hp : post (some (.int v)) w) : ZV G Y kc ks pc lv [.int v] w := by
  obtain ⟨l, D, cA, B, t⟩ := G
  obtain ⟨p, e, R, s, m, args, below, meth, c, Q, nL⟩ := Y
  obtain ⟨hx, hb, hml, hnl, hown, hts, hK, hlk, hr, hnm, hR, hB, hZ, hN, hO, hCa⟩ := C
  obtain rfl : Q = _ := hq
  obtain ⟨hd, rfl⟩ := hd
  intro H locs ls hP hD hS hl
  exact W.iret hx hb hr (fun t2 ht hW => ⟨⟨(some (.int v)), w, rfl, hp, by rw [ht]; exact hP, hD⟩, hS.F ht⟩) hS.2.2 hd
theorem zx_zret {post : Option Value → va_W → Prop} (C : ZC G Y cc own nm (some .boolean) rm nl) (hq : ZQ G Y post kc ks) {v : Int32} (hv : v = 0 ∨ v = 1) (hd : zd cc pc .ireturn 1 pc1) (hp : post (some (.int v)) w) : ZV G Y kc ks pc lv [.int v] w := by
  obtain ⟨l, D, cA, B, t⟩ := G
  obtain ⟨p, e, R, s, m, args, below, meth, c, Q, nL⟩ := Y
  obtain ⟨hx, hb, hml, hnl, hown, hts, hK, hlk, hr, hnm, hR, hB, hZ, hN, hO, hCa⟩ := C
  obtain rfl : Q = _ := hq
  obtain ⟨hd, rfl⟩ := hd
  intro H locs ls hP hD hS hl
  exact W.zret hx hb hr (by rcases hv with rfl | rfl <;> rfl) (fun t2 ht hW => ⟨⟨(some (.int v)), w, rfl, hp, by rw [ht]; exact hP, hD⟩, hS.F ht⟩) hS.2.2 hd
theorem zx_lret {post : Option Value → va_W → Prop} (C : ZC G Y cc own nm (some .long) rm nl) (hq : ZQ G Y post kc ks) {v : Int64} (hd : zd cc pc .lreturn 1 pc1) (hp : post (some (.long v)) w) : ZV G Y kc ks pc lv [.long v] w := by
  obtain ⟨l, D, cA, B, t⟩ := G
  obtain ⟨p, e, R, s, m, args, below, meth, c, Q, nL⟩ := Y
  obtain ⟨hx, hb, hml, hnl, hown, hts, hK, hlk, hr, hnm, hR, hB, hZ, hN, hO, hCa⟩ := C
  obtain rfl : Q = _ := hq
  obtain ⟨hd, rfl⟩ := hd
  intro H locs ls hP hD hS hl
  exact W.lret hx hb hr (fun t2 ht hW => ⟨⟨(some (.long v)), w, rfl, hp, by rw [ht]; exact hP, hD⟩, hS.F ht⟩) hS.2.2 hd
theorem zx_vret {post : Option Value → va_W → Prop} (C : ZC G Y cc own nm none rm nl) (hq : ZQ G Y post kc ks) (hd : zd cc pc .return_ 1 pc1) (hp : post none w) : ZV G Y kc ks pc lv [] w := by
  obtain ⟨l, D, cA, B, t⟩ := G
  obtain ⟨p, e, R, s, m, args, below, meth, c, Q, nL⟩ := Y
  obtain ⟨hx, hb, hml, hnl, hown, hts, hK, hlk, hr, hnm, hR, hB, hZ, hN, hO, hCa⟩ := C
  obtain rfl : Q = _ := hq
  obtain ⟨hd, rfl⟩ := hd
  intro H locs ls hP hD hS hl
  exact W.vret hx hb hr (fun t2 ht hW => ⟨⟨none, w, rfl, hp, by rw [ht]; exact hP, hD⟩, hS.F ht⟩) hS.2.2 hd
theorem zx_aret {post : Option Value → va_W → Prop} {E : String} (C : ZC G Y cc own nm (some (.object E)) rm nl) (hq : ZQ G Y post kc ks) {r : Option Nat} (hd : zd cc pc .areturn 1 pc1) (hp : post (some (va_rf r)) w) : ZV G Y kc ks pc lv [va_rf r] w := by
  obtain ⟨l, D, cA, B, t⟩ := G
  obtain ⟨p, e, R, s, m, args, below, meth, c, Q, nL⟩ := Y
  obtain ⟨hx, hb, hml, hnl, hown, hts, hK, hlk, hr, hnm, hR, hB, hZ, hN, hO, hCa⟩ := C
  obtain rfl : Q = _ := hq
  obtain ⟨hd, rfl⟩ := hd
  intro H locs ls hP hD hS hl
  exact W.aret hx hb hr (Or.inl ⟨_, rfl⟩) (by cases r with | none => exact Or.inl rfl | some a => exact Or.inr ⟨a, rfl⟩) (fun t2 ht hW => ⟨⟨(some (va_rf r)), w, rfl, hp, by rw [ht]; exact hP, hD⟩, hS.F ht⟩) hS.2.2 hd
end ZRows
/-! contracts and calls -/
theorem zb_pay {args : Array Value} {s : State} (hts : ∀ w ∈ zb_tb, w.before args s = true) : ∀ w ∈ zb_tb, ∀ (a' : Array Value) (U : State), s.WarmedH U.vm → w.before a' U = true := fun w hw a' U hW => word_at hW (good_of_word (List.mem_filter.mp hw).2) (hts w hw)
theorem zb_payc {args : Array Value} {s : State} {x : Cond} (hts : ∀ w ∈ zb_tb, w.before args s = true) (hx : x ∈ zb_tb) : ∀ w ∈ x :: zb_tb, ∀ (a' : Array Value) (U : State), s.WarmedH U.vm → w.before a' U = true := fun w hw a' U hW => by
  rcases List.mem_cons.mp hw with rfl | h
  · exact zb_pay hts w hx a' U hW
  · exact zb_pay hts w h a' U hW
theorem zb_blind {G : ZG} {av : List Value} {w : va_W} : FrameBlind (va_Pc av (ZE G w)) := by
  intro a U g mk q
  obtain ⟨q0, q1, ⟨qK, qZ, qN, qO, qC⟩, qP, qD⟩ := q
  exact ⟨q0, q1, ⟨va_K.moved (u := U) (U := U.calling g mk a) (Vm.Alike.refl U.vm) qK, ⟨va_Z.moved (u := U) (U := U.calling g mk a) (Vm.Alike.refl U.vm) qZ.1, va_T.moved (u := U) (U := U.calling g mk a) (Vm.Alike.refl U.vm) qZ.2⟩, fun q hq => va_Nw.same (u := U) (U := U.calling g mk a) rfl rfl (qN q hq), fun C hC => va_AO.moved (u := U) (U := U.calling g mk a) (Vm.Alike.refl U.vm) (qO C hC), fun q hq => va_Nw.same (u := U) (U := U.calling g mk a) rfl rfl (qC q hq)⟩, qP, qD⟩
theorem zb_enter {l : Launch} {D : va_G} {cA : Nat → ClassId} {B t : Nat} {s U : State} {H : Heap} {locs : List Loc} {w : va_W} (hB : B ≤ s.heap.size) (hK : va_K D zb_cl (zb_tys cA) s) (hZ : zb_S B t s s.heap) (hN : ∀ q ∈ zb_nest, va_Nw (.methodLinkNest q.1 q.2.1 q.2.2.1 q.2.2.2) s) (hO : ∀ C ∈ zb_ao, va_AO C s) (hCa : ∀ q ∈ zb_ca, va_Nw (.castable q.1 q.2) s) (hP : va_P D zb_cl w H) (hD : va_D (zb_A B) w) (hS : va_S (zb_A B) s.heap H locs) (hU : U.heap = H) (hW : s.WarmedH U.vm) : ZE (l, D, cA, B, t) w U := by
  subst hU
  exact ⟨Nat.le_trans hB hS.1, ⟨va_K.moved hW.alike hK, ⟨va_Z.moved hW.alike (va_Z.kept hZ.1 hS.2.1), va_T.moved hW.alike (va_T.kept hZ.2 hS.2.1)⟩, fun q hq => va_Nw.warmM hW (hN q hq), fun C hC => va_AO.moved hW.alike (hO C hC), fun q hq => va_Nw.warmC hW (hCa q hq)⟩, hP, hD⟩
theorem ZM.of {G : ZG} {y : MethodName} {bytes : ByteArray} {maxL : Nat} {ret : Option FieldType} {rm : Room} {av : List Value} {w : va_W} {post : Option Value → va_W → Prop} (own nm : String) (ho : y.cls = own) (hn : y.name = nm) (hy : plainName y.cls = true) (hlen : (lg_sl av).length ≤ maxL) (body : ∀ Y : ZY, ZC G Y bytes own nm ret rm maxL → ZQ G Y post rm.cells rm.slots → ZV G Y 0 0 0 (lv_args 0 av) [] w) : ZM G y bytes maxL ret rm av w post := by
  obtain ⟨l, D, cA, B, t⟩ := G
  refine Met.ofW (cc := bytes) (maxL := maxL) (ret := ret) hy rfl ?_
  intro p e s m args below meth c s₁ Bd hml hv
  obtain ⟨rfl, hB, ⟨hK, hZ, hN, hO, hCa⟩, hP, hD⟩ := hv
  have hts0 := atoms_spec (ws := Cond.code y bytes maxL ret :: zb_tb) Bd.pre
  have hl := lv_entry av (n := maxL) hlen
  rw [lg_entry_eq]
  refine body (p, e, rm, s, m, av.toArray, below, meth, c, MQ below (ZQc D B post) av.toArray s rm.cells rm.slots (zb_A B), maxL) ?_ rfl s.heap [] _ hP hD va_S.rf hl
  exact ⟨Bd.exec, Bd.bytes, hml, rfl, by rw [← ho]; exact findClass_of_methodNamed Bd.named, fun w hw => hts0 w (List.mem_cons_of_mem _ hw), hK, Bd.notSynchronized, Bd.returns, by rw [← hn]; exact (name_of_methodNamed Bd.named Bd.method).1, rfl, hB, hZ, hN, hO, hCa⟩
def ZR : ZG → ZY → Nat → Nat → Nat → Nat → List (Nat × Value) → List Value → va_W → List Value → Nat → Nat → (Option Value → va_W → Prop) → Prop
  | (l, D, _, B, _), (p, e, R, s, m, args, below, meth, c, _, nL), kc, ks, pc, pc1, lv, st, w, rest, mc, ms, post => pc + 3 = pc1 ∧
    ∀ (H : Heap) (locs : List Loc) (ls : Array Slot), va_P D zb_cl w H → va_D (zb_A B) w → va_S (zb_A B) s.heap H locs → lv_has ls nL lv → ∃ a : Array Value, va_Run p l e R s m args below meth c H locs kc ks mc ms (F0 m pc ls st) rest (ZQc D B post a) (zb_A B)
theorem zr_end {G : ZG} {Y : ZY} {kc ks pc pc1 mc ms : Nat} {lv : List (Nat × Value)} {st rest : List Value} {w : va_W} {post : Option Value → va_W → Prop} (hr : ZR G Y kc ks pc pc1 lv st w rest mc ms post) (kk : ∀ (v : Option Value) (w1 : va_W), post v w1 → ZV G Y (kc + mc) (ks + ms) pc1 lv (v.toList ++ rest) w1) : ZV G Y kc ks pc lv st w := by
  obtain ⟨l, D, cA, B, t⟩ := G
  obtain ⟨p, e, R, s, m, args, below, meth, c, Q, nL⟩ := Y
  obtain ⟨rfl, hr⟩ := hr
  intro H locs ls hP hD hS hl T hT X
  obtain ⟨a, hr⟩ := hr H locs ls hP hD hS hl
  obtain ⟨v, st₀, t2, T', L, h0, X', hL, e1, e2, ⟨⟨v', w', hv, hp, hP', hD'⟩, hF1, hF2⟩, stp⟩ := hr T hT X
  cases hv
  rw [h0] at hF1 hF2
  obtain ⟨t3, a1, b1⟩ := kk v w' hp T'.heap (locs ++ L) ls (by rw [e1]; exact hP') hD' ⟨Nat.le_trans hS.1 (by rw [e1]; exact hF1), fun q h1 h2 => by rw [e1, hF2 q (Nat.lt_of_lt_of_le h1 hS.1) h2]; exact hS.2.1 q h1 h2, fun q hq => by
      rcases List.mem_append.mp hq with h | h
      · exact hS.2.2 q h
      · exact hL q h⟩ hl T' rfl X'
  exact ⟨t3, stp t3 a1, b1⟩
def zpi (P : Int32 → va_W → Prop) : Option Value → va_W → Prop := fun v w => ∃ r : Int32, v = some (.int r) ∧ P r w
def zpl (P : Int64 → va_W → Prop) : Option Value → va_W → Prop := fun v w => ∃ r : Int64, v = some (.long r) ∧ P r w
def zpq (P : Option Nat → va_W → Prop) : Option Value → va_W → Prop := fun v w => ∃ r : Option Nat, v = some (va_rf r) ∧ P r w
def zpv (P : va_W → Prop) : Option Value → va_W → Prop := fun v w => v = none ∧ P w
def zdi (r0 : Int32) (w0 : va_W) : Option Value → va_W → Prop := fun v w => v = some (.int r0) ∧ w = w0
def zdl (r0 : Int64) (w0 : va_W) : Option Value → va_W → Prop := fun v w => v = some (.long r0) ∧ w = w0
def zdq (r0 : Option Nat) (w0 : va_W) : Option Value → va_W → Prop := fun v w => v = some (va_rf r0) ∧ w = w0
def zdv (w0 : va_W) : Option Value → va_W → Prop := fun v w => v = none ∧ w = w0
section ZEnds
variable {G : ZG} {Y : ZY} {kc ks pc pc1 mc ms : Nat} {lv : List (Nat × Value)} {st rest : List Value} {w w0 : va_W}
theorem zr_i {P : Int32 → va_W → Prop} (hr : ZR G Y kc ks pc pc1 lv st w rest 0 0 (zpi P)) (kk : ∀ (r : Int32) (w1 : va_W), P r w1 → ZV G Y kc ks pc1 lv (.int r :: rest) w1) : ZV G Y kc ks pc lv st w := zr_end hr (fun v w1 h => by obtain ⟨r, rfl, h⟩ := h; exact kk r w1 h)
theorem zr_l {P : Int64 → va_W → Prop} (hr : ZR G Y kc ks pc pc1 lv st w rest 0 0 (zpl P)) (kk : ∀ (r : Int64) (w1 : va_W), P r w1 → ZV G Y kc ks pc1 lv (.long r :: rest) w1) : ZV G Y kc ks pc lv st w := zr_end hr (fun v w1 h => by obtain ⟨r, rfl, h⟩ := h; exact kk r w1 h)
theorem zr_q {P : Option Nat → va_W → Prop} (hr : ZR G Y kc ks pc pc1 lv st w rest 0 0 (zpq P)) (kk : ∀ (r : Option Nat) (w1 : va_W), P r w1 → ZV G Y kc ks pc1 lv (va_rf r :: rest) w1) : ZV G Y kc ks pc lv st w := zr_end hr (fun v w1 h => by obtain ⟨r, rfl, h⟩ := h; exact kk r w1 h)
theorem zr_v {P : va_W → Prop} (hr : ZR G Y kc ks pc pc1 lv st w rest 0 0 (zpv P)) (kk : ∀ w1 : va_W, P w1 → ZV G Y kc ks pc1 lv rest w1) : ZV G Y kc ks pc lv st w := zr_end hr (fun v w1 h => by obtain ⟨rfl, h⟩ := h; exact kk w1 h)
theorem zr_di {r0 : Int32} (hr : ZR G Y kc ks pc pc1 lv st w rest 0 0 (zdi r0 w0)) (kk : ZV G Y kc ks pc1 lv (.int r0 :: rest) w0) : ZV G Y kc ks pc lv st w := zr_end hr (fun v w1 h => by obtain ⟨rfl, rfl⟩ := h; exact kk)
theorem zr_dl {r0 : Int64} (hr : ZR G Y kc ks pc pc1 lv st w rest 0 0 (zdl r0 w0)) (kk : ZV G Y kc ks pc1 lv (.long r0 :: rest) w0) : ZV G Y kc ks pc lv st w := zr_end hr (fun v w1 h => by obtain ⟨rfl, rfl⟩ := h; exact kk)
theorem zr_dq {r0 : Option Nat} (hr : ZR G Y kc ks pc pc1 lv st w rest 0 0 (zdq r0 w0)) (kk : ZV G Y kc ks pc1 lv (va_rf r0 :: rest) w0) : ZV G Y kc ks pc lv st w := zr_end hr (fun v w1 h => by obtain ⟨rfl, rfl⟩ := h; exact kk)
theorem zr_dv (hr : ZR G Y kc ks pc pc1 lv st w rest 0 0 (zdv w0)) (kk : ZV G Y kc ks pc1 lv rest w0) : ZV G Y kc ks pc lv st w := zr_end hr (fun v w1 h => by obtain ⟨rfl, rfl⟩ := h; exact kk)
/-- with cells made -/
theorem zr_iA {P : Int32 → va_W → Prop} (hr : ZR G Y kc ks pc pc1 lv st w rest mc ms (zpi P)) (kk : ∀ (r : Int32) (w1 : va_W), P r w1 → ZV G Y (kc + mc) (ks + ms) pc1 lv (.int r :: rest) w1) : ZV G Y kc ks pc lv st w := zr_end hr (fun v w1 h => by obtain ⟨r, rfl, h⟩ := h; exact kk r w1 h)
theorem zr_vA {P : va_W → Prop} (hr : ZR G Y kc ks pc pc1 lv st w rest mc ms (zpv P)) (kk : ∀ w1 : va_W, P w1 → ZV G Y (kc + mc) (ks + ms) pc1 lv rest w1) : ZV G Y kc ks pc lv st w := zr_end hr (fun v w1 h => by obtain ⟨rfl, h⟩ := h; exact kk w1 h)
theorem zr_qA {P : Option Nat → va_W → Prop} (hr : ZR G Y kc ks pc pc1 lv st w rest mc ms (zpq P)) (kk : ∀ (r : Option Nat) (w1 : va_W), P r w1 → ZV G Y (kc + mc) (ks + ms) pc1 lv (va_rf r :: rest) w1) : ZV G Y kc ks pc lv st w := zr_end hr (fun v w1 h => by obtain ⟨r, rfl, h⟩ := h; exact kk r w1 h)
end ZEnds
def zl_B (own : String) (idx : Nat) (y : MethodName) (bytes : ByteArray) (maxL : Nat) (ret : Option FieldType) (n : Nat) : Prop := Cond.methodLink own idx y ∈ zb_tb ∧ Cond.initialized y.cls ∈ zb_tb ∧ Cond.code y bytes maxL ret ∈ zb_tb ∧ (y.cls ≠ "java/lang/invoke/MethodHandle" ∧ y.cls ≠ "java/lang/invoke/VarHandle") ∧ (parseMethodDescriptor y.desc).map (fun d => d.parameters.length) = some n
def zl_V (own : String) (idx : Nat) (y : MethodName) (bytes : ByteArray) (maxL : Nat) (ret : Option FieldType) (n : Nat) : Prop := zl_B own idx y bytes maxL ret n ∧ Cond.instanceMethod y ∈ zb_tb ∧ Cond.selects y.cls y y ∈ zb_tb
def zl_S (own : String) (idx : Nat) (y : MethodName) (bytes : ByteArray) (maxL : Nat) (ret : Option FieldType) (n : Nat) : Prop := zl_B own idx y bytes maxL ret n ∧ Cond.static y ∈ zb_tb
def zl_I (own : String) (idx : Nat) (y : MethodName) (bytes : ByteArray) (maxL : Nat) (n : Nat) : Prop := zl_B own idx y bytes maxL none n ∧ y.name = "<init>" ∧ Cond.instanceMethod y ∈ zb_tb
def zl_N (own : String) (idx : Nat) (y : MethodName) (host : String) (bytes : ByteArray) (maxL : Nat) (ret : Option FieldType) (n : Nat) : Prop := (own, idx, y, host) ∈ zb_nest ∧ Cond.initialized y.cls ∈ zb_tb ∧ Cond.code y bytes maxL ret ∈ zb_tb ∧ (y.cls ≠ "java/lang/invoke/MethodHandle" ∧ y.cls ≠ "java/lang/invoke/VarHandle") ∧ (parseMethodDescriptor y.desc).map (fun d => d.parameters.length) = some n ∧ Cond.static y ∈ zb_tb
theorem zl_len {d : String} {n : Nat} (h : (parseMethodDescriptor d).map (fun d => d.parameters.length) = some n) : ∀ sig, parseMethodDescriptor d = some sig → n = sig.parameters.length := fun sig hs => by
  rw [hs] at h
  exact (Option.some.inj h).symm
def zl_R (rmc rm : Room) (maxL kc ks : Nat) : Prop := rmc.frames + 1 ≤ rm.frames ∧ 8 + (maxL + 11) + rmc.locals ≤ rm.locals ∧ kc + rmc.cells ≤ rm.cells ∧ ks + rmc.slots ≤ rm.slots
section ZCalls
variable {G : ZG} {Y : ZY} {cc : ByteArray} {own nm : String} {ret : Option FieldType} {rm : Room} {nl : Nat} {kc ks pc pc1 : Nat} {lv : List (Nat × Value)} {st : List Value} {w : va_W}
variable {idx : Nat} {y : MethodName} {bytes : ByteArray} {maxL : Nat} {rt : Option FieldType} {n : Nat} {rmc : Room} {post : Option Value → va_W → Prop} {As rest : List Value} {b : Nat}
theorem zr_V (C : ZC G Y cc own nm ret rm nl) (hl : zl_V own idx y bytes maxL rt n) (hd : zd cc pc (.invokevirtual idx) 3 pc1) (hst : As.reverse ++ .ref b :: rest = st) (hn : As.length = n) (hro : (rest.map fun v => v.category).sum ≤ 8) (hM : ZM G y bytes maxL rt rmc (.ref b :: As) w post) (q : Nat) {ci : Nat} {fs : List Value} (hw : w[q]? = some (b, .inr (ci, fs))) {T : u_T} {N : Nat} (hc : zb_cl[ci]? = some (y.cls, T, N)) (hR : zl_R rmc rm maxL kc ks) : ZR G Y kc ks pc pc1 lv st w rest rmc.cells rmc.slots post := by
  obtain ⟨l, D, cA, B, t⟩ := G
  obtain ⟨p, e, R, s, m, args, below, meth, c, Q, nL⟩ := Y
  obtain ⟨hx, hb, hml, hnl, hown, hts, hK, hlk, hr, hnm, rfl, hB, hZ, hN, hO, hCa⟩ := C
  obtain ⟨hd, rfl⟩ := hd
  obtain ⟨⟨k1, k2, k3, k4, k5⟩, k6, k7⟩ := hl
  subst hst
  refine ⟨rfl, fun H locs ls hP hD hS hl => ⟨(Value.ref b :: As).toArray, va_runV (As := As) (rest := rest) (b := b) (C := y.cls) ⟨hx, hb, hml, hown, hts⟩ hM ⟨⟨rfl, rfl, hR.1, hR.2.1, zb_payc hts k3, List.mem_cons_self, hts _ k3, hts _ k2, k4, zl_len k5, hts _ k1⟩, hts _ k6, hts _ k7⟩ ⟨zb_blind, va_recv hK hP hc hw, fun U hU hW => ⟨rfl, zb_enter hB hK hZ hN hO hCa hP hD hS hU hW⟩⟩ rfl hn (hl.1.trans hnl) rfl (lv_room hro) hd ⟨hR.2.2.1, hR.2.2.2⟩⟩⟩
theorem zr_S (C : ZC G Y cc own nm ret rm nl) (hl : zl_S own idx y bytes maxL rt n) (hd : zd cc pc (.invokestatic idx) 3 pc1) (hst : As.reverse ++ rest = st) (hn : As.length = n) (hro : (rest.map fun v => v.category).sum ≤ 8) (hM : ZM G y bytes maxL rt rmc As w post) (hR : zl_R rmc rm maxL kc ks) : ZR G Y kc ks pc pc1 lv st w rest rmc.cells rmc.slots post := by
  obtain ⟨l, D, cA, B, t⟩ := G
  obtain ⟨p, e, R, s, m, args, below, meth, c, Q, nL⟩ := Y
  obtain ⟨hx, hb, hml, hnl, hown, hts, hK, hlk, hr, hnm, rfl, hB, hZ, hN, hO, hCa⟩ := C
  obtain ⟨hd, rfl⟩ := hd
  obtain ⟨⟨k1, k2, k3, k4, k5⟩, k6⟩ := hl
  subst hst
  refine ⟨rfl, fun H locs ls hP hD hS hl => ⟨As.toArray, va_runS (As := As) (rest := rest) ⟨hx, hb, hml, hown, hts⟩ hM ⟨⟨rfl, rfl, hR.1, hR.2.1, zb_payc hts k3, List.mem_cons_self, hts _ k3, hts _ k2, k4, zl_len k5, hts _ k1⟩, hts _ k6⟩ ⟨zb_blind, fun U hU hW => ⟨rfl, zb_enter hB hK hZ hN hO hCa hP hD hS hU hW⟩⟩ rfl hn (hl.1.trans hnl) rfl (lv_room hro) hd ⟨hR.2.2.1, hR.2.2.2⟩⟩⟩
theorem zr_I (C : ZC G Y cc own nm ret rm nl) (hl : zl_I own idx y bytes maxL n) (hd : zd cc pc (.invokespecial idx) 3 pc1) (hst : As.reverse ++ .ref b :: rest = st) (hn : As.length = n) (hro : (rest.map fun v => v.category).sum ≤ 8) (hM : ZM G y bytes maxL none rmc (.ref b :: As) w post) (hR : zl_R rmc rm maxL kc ks) : ZR G Y kc ks pc pc1 lv st w rest rmc.cells rmc.slots post := by
  obtain ⟨l, D, cA, B, t⟩ := G
  obtain ⟨p, e, R, s, m, args, below, meth, c, Q, nL⟩ := Y
  obtain ⟨hx, hb, hml, hnl, hown, hts, hK, hlk, hr, hnm, rfl, hB, hZ, hN, hO, hCa⟩ := C
  obtain ⟨hd, rfl⟩ := hd
  obtain ⟨⟨k1, k2, k3, k4, k5⟩, k6, k7⟩ := hl
  subst hst
  refine ⟨rfl, fun H locs ls hP hD hS hl => ⟨(Value.ref b :: As).toArray, va_runI (As := As) (rest := rest) (b := b) ⟨hx, hb, hml, hown, hts⟩ hM ⟨⟨rfl, rfl, hR.1, hR.2.1, zb_payc hts k3, List.mem_cons_self, hts _ k3, hts _ k2, k4, zl_len k5, hts _ k1⟩, k6, hts _ k7⟩ ⟨zb_blind, fun U hU hW => ⟨rfl, zb_enter hB hK hZ hN hO hCa hP hD hS hU hW⟩⟩ rfl hn (hl.1.trans hnl) rfl (lv_room hro) hd ⟨hR.2.2.1, hR.2.2.2⟩⟩⟩
theorem zr_N {host : String} (C : ZC G Y cc own nm ret rm nl) (hl : zl_N own idx y host bytes maxL rt n) (hd : zd cc pc (.invokestatic idx) 3 pc1) (hst : As.reverse ++ rest = st) (hn : As.length = n) (hro : (rest.map fun v => v.category).sum ≤ 8) (hM : ZM G y bytes maxL rt rmc As w post) (hR : zl_R rmc rm maxL kc ks) : ZR G Y kc ks pc pc1 lv st w rest rmc.cells rmc.slots post := by
  obtain ⟨l, D, cA, B, t⟩ := G
  obtain ⟨p, e, R, s, m, args, below, meth, c, Q, nL⟩ := Y
  obtain ⟨hx, hb, hml, hnl, hown, hts, hK, hlk, hr, hnm, rfl, hB, hZ, hN, hO, hCa⟩ := C
  obtain ⟨hd, rfl⟩ := hd
  obtain ⟨k1, k2, k3, k4, k5, k6⟩ := hl
  subst hst
  have hnw := hN _ k1
  refine ⟨rfl, fun H locs ls hP hD hS hl => ⟨As.toArray, va_runSN (host := host) (As := As) (rest := rest) ⟨hx, hb, hml, hown, hts⟩ hM ⟨⟨⟨rfl, rfl, hR.1, hR.2.1, zb_payc hts k3, List.mem_cons_self⟩, hts _ k3, hts _ k2, k4, zl_len k5, va_Nw.use rfl hnw⟩, hts _ k6, trivial⟩ ⟨zb_blind, fun U hU hW => ⟨rfl, zb_enter hB hK hZ hN hO hCa hP hD hS hU hW⟩⟩ rfl hn (hl.1.trans hnl) rfl (lv_room hro) hd ⟨hR.2.2.1, hR.2.2.2⟩⟩⟩
end ZCalls
end
section
abbrev y_Cap_init : MethodName := ⟨"SameTuesday$Caprice", "<init>", "(IIII)V"⟩
abbrev b_Cap_init : ByteArray := prog_2_method_1_code
abbrev r_Cap_init : Room := { frames := 3, cells := 0, slots := 0, locals := 68 }
abbrev y_Cap_kind : MethodName := ⟨"SameTuesday$Caprice", "kind", "()I"⟩
abbrev b_Cap_kind : ByteArray := prog_2_method_2_code
abbrev r_Cap_kind : Room := { frames := 0, cells := 0, slots := 0, locals := 0 }
abbrev y_Cap_after : MethodName := ⟨"SameTuesday$Caprice", "after", "(J)J"⟩
abbrev b_Cap_after : ByteArray := prog_2_method_3_code
abbrev r_Cap_after : Room := { frames := 0, cells := 0, slots := 0, locals := 0 }
abbrev y_Cap_telling : MethodName := ⟨"SameTuesday$Caprice", "telling", "(LSameTuesday$Trace;)I"⟩
abbrev b_Cap_telling : ByteArray := prog_2_method_4_code
abbrev r_Cap_telling : Room := { frames := 3, cells := 0, slots := 0, locals := 63 }
abbrev y_Cap_rhymed : MethodName := ⟨"SameTuesday$Caprice", "rhymed", "(LSameTuesday$Trace;)I"⟩
abbrev b_Cap_rhymed : ByteArray := prog_2_method_5_code
abbrev r_Cap_rhymed : Room := { frames := 1, cells := 0, slots := 0, locals := 21 }
abbrev y_Deed_init : MethodName := ⟨"SameTuesday$Deed", "<init>", "(IIII)V"⟩
abbrev b_Deed_init : ByteArray := prog_3_method_1_code
abbrev r_Deed_init : Room := { frames := 1, cells := 0, slots := 0, locals := 20 }
abbrev y_Deed_after : MethodName := ⟨"SameTuesday$Deed", "after", "(J)J"⟩
abbrev b_Deed_after : ByteArray := prog_3_method_2_code
abbrev r_Deed_after : Room := { frames := 1, cells := 0, slots := 0, locals := 20 }
abbrev y_Hap_init : MethodName := ⟨"SameTuesday$Happening", "<init>", "(IIII)V"⟩
abbrev b_Hap_init : ByteArray := prog_4_method_1_code
abbrev r_Hap_init : Room := { frames := 1, cells := 0, slots := 0, locals := 20 }
abbrev y_Hap_kind : MethodName := ⟨"SameTuesday$Happening", "kind", "()I"⟩
abbrev b_Hap_kind : ByteArray := prog_4_method_2_code
abbrev r_Hap_kind : Room := { frames := 0, cells := 0, slots := 0, locals := 0 }
abbrev y_Hap_after : MethodName := ⟨"SameTuesday$Happening", "after", "(J)J"⟩
abbrev b_Hap_after : ByteArray := prog_4_method_3_code
abbrev r_Hap_after : Room := { frames := 0, cells := 0, slots := 0, locals := 0 }
abbrev y_Hap_telling : MethodName := ⟨"SameTuesday$Happening", "telling", "(LSameTuesday$Trace;)I"⟩
abbrev b_Hap_telling : ByteArray := prog_4_method_4_code
abbrev r_Hap_telling : Room := { frames := 2, cells := 0, slots := 0, locals := 42 }
abbrev y_Hap_plainTelling : MethodName := ⟨"SameTuesday$Happening", "plainTelling", "(LSameTuesday$Trace;)I"⟩
abbrev b_Hap_plainTelling : ByteArray := prog_4_method_5_code
abbrev r_Hap_plainTelling : Room := { frames := 1, cells := 0, slots := 0, locals := 21 }
abbrev y_Hap_rhymed : MethodName := ⟨"SameTuesday$Happening", "rhymed", "(LSameTuesday$Trace;)I"⟩
abbrev b_Hap_rhymed : ByteArray := prog_4_method_6_code
abbrev r_Hap_rhymed : Room := { frames := 1, cells := 0, slots := 0, locals := 21 }
abbrev y_Law_init : MethodName := ⟨"SameTuesday$Law", "<init>", "()V"⟩
abbrev b_Law_init : ByteArray := prog_5_method_1_code
abbrev r_Law_init : Room := { frames := 1, cells := 1, slots := 8, locals := 20 }
abbrev y_Law_dayCount : MethodName := ⟨"SameTuesday$Law", "dayCount", "()I"⟩
abbrev b_Law_dayCount : ByteArray := prog_5_method_2_code
abbrev r_Law_dayCount : Room := { frames := 0, cells := 0, slots := 0, locals := 0 }
abbrev y_Law_isFull : MethodName := ⟨"SameTuesday$Law", "isFull", "()Z"⟩
abbrev b_Law_isFull : ByteArray := prog_5_method_3_code
abbrev r_Law_isFull : Room := { frames := 0, cells := 0, slots := 0, locals := 0 }
abbrev y_Law_addDay : MethodName := ⟨"SameTuesday$Law", "addDay", "(I)V"⟩
abbrev b_Law_addDay : ByteArray := prog_5_method_4_code
abbrev r_Law_addDay : Room := { frames := 0, cells := 0, slots := 0, locals := 0 }
abbrev y_Law_dropLast : MethodName := ⟨"SameTuesday$Law", "dropLast", "(I)V"⟩
abbrev b_Law_dropLast : ByteArray := prog_5_method_5_code
abbrev r_Law_dropLast : Room := { frames := 1, cells := 0, slots := 0, locals := 21 }
abbrev y_Law_possible : MethodName := ⟨"SameTuesday$Law", "possible", "()J"⟩
abbrev b_Law_possible : ByteArray := prog_5_method_6_code
abbrev r_Law_possible : Room := { frames := 2, cells := 0, slots := 0, locals := 43 }
abbrev y_Law_possibleAt : MethodName := ⟨"SameTuesday$Law", "possibleAt", "(I)I"⟩
abbrev b_Law_possibleAt : ByteArray := prog_5_method_7_code
abbrev r_Law_possibleAt : Room := { frames := 3, cells := 0, slots := 0, locals := 66 }
abbrev y_Law_ofFewestFacts : MethodName := ⟨"SameTuesday$Law", "ofFewestFacts", "()I"⟩
abbrev b_Law_ofFewestFacts : ByteArray := prog_5_method_8_code
abbrev r_Law_ofFewestFacts : Room := { frames := 3, cells := 0, slots := 0, locals := 66 }
abbrev y_Law_partingBest : MethodName := ⟨"SameTuesday$Law", "partingBest", "(J)I"⟩
abbrev b_Law_partingBest : ByteArray := prog_5_method_9_code
abbrev r_Law_partingBest : Room := { frames := 3, cells := 0, slots := 0, locals := 66 }
abbrev y_Life_init : MethodName := ⟨"SameTuesday$Life", "<init>", "(LSameTuesday$Town;)V"⟩
abbrev b_Life_init : ByteArray := prog_6_method_1_code
abbrev r_Life_init : Room := { frames := 1, cells := 3, slots := 100, locals := 20 }
abbrev y_Life_readPairs : MethodName := ⟨"SameTuesday$Life", "readPairs", "(LSameTuesday$Sheet;II)I"⟩
abbrev b_Life_readPairs : ByteArray := prog_6_method_2_code
abbrev r_Life_readPairs : Room := { frames := 1, cells := 0, slots := 0, locals := 21 }
abbrev y_Life_firstWrong : MethodName := ⟨"SameTuesday$Life", "firstWrong", "()I"⟩
abbrev b_Life_firstWrong : ByteArray := prog_6_method_3_code
abbrev r_Life_firstWrong : Room := { frames := 0, cells := 0, slots := 0, locals := 0 }
abbrev y_Life_factsAt : MethodName := ⟨"SameTuesday$Life", "factsAt", "(II)I"⟩
abbrev b_Life_factsAt : ByteArray := prog_6_method_4_code
abbrev r_Life_factsAt : Room := { frames := 3, cells := 0, slots := 0, locals := 69 }
abbrev y_Life_endDeeds : MethodName := ⟨"SameTuesday$Life", "endDeeds", "(I)V"⟩
abbrev b_Life_endDeeds : ByteArray := prog_6_method_5_code
abbrev r_Life_endDeeds : Room := { frames := 2, cells := 0, slots := 0, locals := 48 }
abbrev y_Life_beginPairs : MethodName := ⟨"SameTuesday$Life", "beginPairs", "(I)V"⟩
abbrev b_Life_beginPairs : ByteArray := prog_6_method_6_code
abbrev r_Life_beginPairs : Room := { frames := 2, cells := 0, slots := 0, locals := 46 }
abbrev y_Life_begin : MethodName := ⟨"SameTuesday$Life", "begin", "(LSameTuesday$Deed;I)Z"⟩
abbrev b_Life_begin : ByteArray := prog_6_method_7_code
abbrev r_Life_begin : Room := { frames := 1, cells := 0, slots := 0, locals := 24 }
abbrev y_Life_noteWrong : MethodName := ⟨"SameTuesday$Life", "noteWrong", "(I)V"⟩
abbrev b_Life_noteWrong : ByteArray := prog_6_method_8_code
abbrev r_Life_noteWrong : Room := { frames := 0, cells := 0, slots := 0, locals := 0 }
abbrev y_Life_minuteOfPair : MethodName := ⟨"SameTuesday$Life", "minuteOfPair", "(I)I"⟩
abbrev b_Life_minuteOfPair : ByteArray := prog_6_method_9_code
abbrev r_Life_minuteOfPair : Room := { frames := 0, cells := 0, slots := 0, locals := 0 }
abbrev y_Life_deedOfPair : MethodName := ⟨"SameTuesday$Life", "deedOfPair", "(I)LSameTuesday$Deed;"⟩
abbrev b_Life_deedOfPair : ByteArray := prog_6_method_10_code
abbrev r_Life_deedOfPair : Room := { frames := 1, cells := 0, slots := 0, locals := 21 }
abbrev y_Life_hangsOn : MethodName := ⟨"SameTuesday$Life", "hangsOn", "()I"⟩
abbrev b_Life_hangsOn : ByteArray := prog_6_method_11_code
abbrev r_Life_hangsOn : Room := { frames := 4, cells := 0, slots := 0, locals := 93 }
abbrev y_Life_countWaysTo : MethodName := ⟨"SameTuesday$Life", "countWaysTo", "(I)I"⟩
abbrev b_Life_countWaysTo : ByteArray := prog_6_method_12_code
abbrev r_Life_countWaysTo : Room := { frames := 4, cells := 0, slots := 0, locals := 93 }
abbrev y_Life_otherAt : MethodName := ⟨"SameTuesday$Life", "otherAt", "(II)I"⟩
abbrev b_Life_otherAt : ByteArray := prog_6_method_13_code
abbrev r_Life_otherAt : Room := { frames := 5, cells := 0, slots := 0, locals := 117 }
abbrev y_Life_endsWith : MethodName := ⟨"SameTuesday$Life", "endsWith", "(LSameTuesday$Deed;II)Z"⟩
abbrev b_Life_endsWith : ByteArray := prog_6_method_14_code
abbrev r_Life_endsWith : Room := { frames := 4, cells := 0, slots := 0, locals := 93 }
abbrev y_Mis_init : MethodName := ⟨"SameTuesday$Mishap", "<init>", "(IIII)V"⟩
abbrev b_Mis_init : ByteArray := prog_7_method_1_code
abbrev r_Mis_init : Room := { frames := 2, cells := 0, slots := 0, locals := 44 }
abbrev y_Mis_kind : MethodName := ⟨"SameTuesday$Mishap", "kind", "()I"⟩
abbrev b_Mis_kind : ByteArray := prog_7_method_2_code
abbrev r_Mis_kind : Room := { frames := 0, cells := 0, slots := 0, locals := 0 }
abbrev y_Mis_after : MethodName := ⟨"SameTuesday$Mishap", "after", "(J)J"⟩
abbrev b_Mis_after : ByteArray := prog_7_method_3_code
abbrev r_Mis_after : Room := { frames := 0, cells := 0, slots := 0, locals := 0 }
abbrev y_Mis_telling : MethodName := ⟨"SameTuesday$Mishap", "telling", "(LSameTuesday$Trace;)I"⟩
abbrev b_Mis_telling : ByteArray := prog_7_method_4_code
abbrev r_Mis_telling : Room := { frames := 2, cells := 0, slots := 0, locals := 42 }
abbrev y_Rch_init : MethodName := ⟨"SameTuesday$Reach", "<init>", "(LSameTuesday$Town;)V"⟩
abbrev b_Rch_init : ByteArray := prog_8_method_1_code
abbrev r_Rch_init : Room := { frames := 1, cells := 2, slots := 110, locals := 20 }
abbrev y_Rch_spoil : MethodName := ⟨"SameTuesday$Reach", "spoil", "()V"⟩
abbrev b_Rch_spoil : ByteArray := prog_8_method_2_code
abbrev r_Rch_spoil : Room := { frames := 0, cells := 0, slots := 0, locals := 0 }
abbrev y_Rch_worldAt : MethodName := ⟨"SameTuesday$Reach", "worldAt", "(I)J"⟩
abbrev b_Rch_worldAt : ByteArray := prog_8_method_3_code
abbrev r_Rch_worldAt : Room := { frames := 4, cells := 0, slots := 0, locals := 97 }
abbrev y_Rch_soonestOf : MethodName := ⟨"SameTuesday$Reach", "soonestOf", "(I)I"⟩
abbrev b_Rch_soonestOf : ByteArray := prog_8_method_4_code
abbrev r_Rch_soonestOf : Room := { frames := 5, cells := 0, slots := 0, locals := 119 }
abbrev y_Rch_barOf : MethodName := ⟨"SameTuesday$Reach", "barOf", "(I)I"⟩
abbrev b_Rch_barOf : ByteArray := prog_8_method_5_code
abbrev r_Rch_barOf : Room := { frames := 5, cells := 0, slots := 0, locals := 119 }
abbrev y_Rch_reckon : MethodName := ⟨"SameTuesday$Reach", "reckon", "()V"⟩
abbrev b_Rch_reckon : ByteArray := prog_8_method_6_code
abbrev r_Rch_reckon : Room := { frames := 3, cells := 0, slots := 0, locals := 76 }
abbrev y_Rch_passHappenings : MethodName := ⟨"SameTuesday$Reach", "passHappenings", "(I)V"⟩
abbrev b_Rch_passHappenings : ByteArray := prog_8_method_7_code
abbrev r_Rch_passHappenings : Room := { frames := 2, cells := 0, slots := 0, locals := 54 }
abbrev y_Rch_endDeeds : MethodName := ⟨"SameTuesday$Reach", "endDeeds", "()V"⟩
abbrev b_Rch_endDeeds : ByteArray := prog_8_method_8_code
abbrev r_Rch_endDeeds : Room := { frames := 2, cells := 0, slots := 0, locals := 48 }
abbrev y_Rch_beginDeeds : MethodName := ⟨"SameTuesday$Reach", "beginDeeds", "(I)V"⟩
abbrev b_Rch_beginDeeds : ByteArray := prog_8_method_9_code
abbrev r_Rch_beginDeeds : Room := { frames := 1, cells := 0, slots := 0, locals := 24 }
abbrev y_Rch_everyWorld : MethodName := ⟨"SameTuesday$Reach", "everyWorld", "()J"⟩
abbrev b_Rch_everyWorld : ByteArray := prog_8_method_10_code
abbrev r_Rch_everyWorld : Room := { frames := 0, cells := 0, slots := 0, locals := 0 }
abbrev y_Sht_init : MethodName := ⟨"SameTuesday$Sheet", "<init>", "()V"⟩
abbrev b_Sht_init : ByteArray := prog_9_method_1_code
abbrev r_Sht_init : Room := { frames := 1, cells := 1, slots := 60, locals := 20 }
abbrev y_Sht_hasNothing : MethodName := ⟨"SameTuesday$Sheet", "hasNothing", "()Z"⟩
abbrev b_Sht_hasNothing : ByteArray := prog_9_method_2_code
abbrev r_Sht_hasNothing : Room := { frames := 0, cells := 0, slots := 0, locals := 0 }
abbrev y_Sht_isOf : MethodName := ⟨"SameTuesday$Sheet", "isOf", "(I)Z"⟩
abbrev b_Sht_isOf : ByteArray := prog_9_method_3_code
abbrev r_Sht_isOf : Room := { frames := 0, cells := 0, slots := 0, locals := 0 }
abbrev y_Sht_isLike : MethodName := ⟨"SameTuesday$Sheet", "isLike", "(LSameTuesday$Sheet;)Z"⟩
abbrev b_Sht_isLike : ByteArray := prog_9_method_4_code
abbrev r_Sht_isLike : Room := { frames := 0, cells := 0, slots := 0, locals := 0 }
abbrev y_Sht_renew : MethodName := ⟨"SameTuesday$Sheet", "renew", "(II)V"⟩
abbrev b_Sht_renew : ByteArray := prog_9_method_5_code
abbrev r_Sht_renew : Room := { frames := 1, cells := 0, slots := 0, locals := 21 }
abbrev y_Sht_empty : MethodName := ⟨"SameTuesday$Sheet", "empty", "()V"⟩
abbrev b_Sht_empty : ByteArray := prog_9_method_6_code
abbrev r_Sht_empty : Room := { frames := 0, cells := 0, slots := 0, locals := 0 }
abbrev y_Sht_holds : MethodName := ⟨"SameTuesday$Sheet", "holds", "(II)Z"⟩
abbrev b_Sht_holds : ByteArray := prog_9_method_7_code
abbrev r_Sht_holds : Room := { frames := 0, cells := 0, slots := 0, locals := 0 }
abbrev y_Sht_cellAt : MethodName := ⟨"SameTuesday$Sheet", "cellAt", "(I)I"⟩
abbrev b_Sht_cellAt : ByteArray := prog_9_method_8_code
abbrev r_Sht_cellAt : Room := { frames := 0, cells := 0, slots := 0, locals := 0 }
abbrev y_Sht_setCell : MethodName := ⟨"SameTuesday$Sheet", "setCell", "(II)V"⟩
abbrev b_Sht_setCell : ByteArray := prog_9_method_9_code
abbrev r_Sht_setCell : Room := { frames := 0, cells := 0, slots := 0, locals := 0 }
abbrev y_Sht_takeFrom : MethodName := ⟨"SameTuesday$Sheet", "takeFrom", "(LSameTuesday$Sheet;III)V"⟩
abbrev b_Sht_takeFrom : ByteArray := prog_9_method_10_code
abbrev r_Sht_takeFrom : Room := { frames := 1, cells := 0, slots := 0, locals := 26 }
abbrev y_Txt_init : MethodName := ⟨"SameTuesday$Text", "<init>", "(LSameTuesday$Sheet;II)V"⟩
abbrev b_Txt_init : ByteArray := prog_10_method_1_code
abbrev r_Txt_init : Room := { frames := 1, cells := 0, slots := 0, locals := 20 }
abbrev y_Txt_firstFault : MethodName := ⟨"SameTuesday$Text", "firstFault", "()I"⟩
abbrev b_Txt_firstFault : ByteArray := prog_10_method_2_code
abbrev r_Txt_firstFault : Room := { frames := 3, cells := 0, slots := 0, locals := 69 }
abbrev y_Txt_passPart : MethodName := ⟨"SameTuesday$Text", "passPart", "()Z"⟩
abbrev b_Txt_passPart : ByteArray := prog_10_method_3_code
abbrev r_Txt_passPart : Room := { frames := 2, cells := 0, slots := 0, locals := 43 }
abbrev y_Txt_fitsHappening : MethodName := ⟨"SameTuesday$Text", "fitsHappening", "(II)Z"⟩
abbrev b_Txt_fitsHappening : ByteArray := prog_10_method_4_code
abbrev r_Txt_fitsHappening : Room := { frames := 1, cells := 0, slots := 0, locals := 22 }
abbrev y_Txt_fitsDeed : MethodName := ⟨"SameTuesday$Text", "fitsDeed", "(II)Z"⟩
abbrev b_Txt_fitsDeed : ByteArray := prog_10_method_5_code
abbrev r_Txt_fitsDeed : Room := { frames := 1, cells := 0, slots := 0, locals := 22 }
abbrev y_Txt_isDigit : MethodName := ⟨"SameTuesday$Text", "isDigit", "(III)Z"⟩
abbrev b_Txt_isDigit : ByteArray := prog_10_method_6_code
abbrev r_Txt_isDigit : Room := { frames := 0, cells := 0, slots := 0, locals := 0 }
abbrev y_Txt_kindOf : MethodName := ⟨"SameTuesday$Text", "kindOf", "(I)I"⟩
abbrev b_Txt_kindOf : ByteArray := prog_10_method_7_code
abbrev r_Txt_kindOf : Room := { frames := 0, cells := 0, slots := 0, locals := 0 }
abbrev y_Txt_codeAt : MethodName := ⟨"SameTuesday$Text", "codeAt", "(I)I"⟩
abbrev b_Txt_codeAt : ByteArray := prog_10_method_8_code
abbrev r_Txt_codeAt : Room := { frames := 1, cells := 0, slots := 0, locals := 21 }
abbrev y_Txt_digitAt : MethodName := ⟨"SameTuesday$Text", "digitAt", "(I)I"⟩
abbrev b_Txt_digitAt : ByteArray := prog_10_method_9_code
abbrev r_Txt_digitAt : Room := { frames := 2, cells := 0, slots := 0, locals := 42 }
abbrev y_Txt_happeningCount : MethodName := ⟨"SameTuesday$Text", "happeningCount", "()I"⟩
abbrev b_Txt_happeningCount : ByteArray := prog_10_method_10_code
abbrev r_Txt_happeningCount : Room := { frames := 0, cells := 0, slots := 0, locals := 0 }
abbrev y_Txt_deedCount : MethodName := ⟨"SameTuesday$Text", "deedCount", "()I"⟩
abbrev b_Txt_deedCount : ByteArray := prog_10_method_11_code
abbrev r_Txt_deedCount : Room := { frames := 0, cells := 0, slots := 0, locals := 0 }
abbrev y_Txt_newHappening : MethodName := ⟨"SameTuesday$Text", "newHappening", "(I)LSameTuesday$Happening;"⟩
abbrev b_Txt_newHappening : ByteArray := prog_10_method_12_code
abbrev r_Txt_newHappening : Room := { frames := 4, cells := 1, slots := 6, locals := 92 }
abbrev y_Txt_newDeed : MethodName := ⟨"SameTuesday$Text", "newDeed", "(I)LSameTuesday$Deed;"⟩
abbrev b_Txt_newDeed : ByteArray := prog_10_method_13_code
abbrev r_Txt_newDeed : Room := { frames := 3, cells := 1, slots := 5, locals := 63 }
abbrev y_Twn_init : MethodName := ⟨"SameTuesday$Town", "<init>", "()V"⟩
abbrev b_Twn_init : ByteArray := prog_11_method_1_code
abbrev r_Twn_init : Room := { frames := 1, cells := 2, slots := 11, locals := 20 }
abbrev y_Twn_retell : MethodName := ⟨"SameTuesday$Town", "retell", "(LSameTuesday$Text;)V"⟩
abbrev b_Twn_retell : ByteArray := prog_11_method_2_code
abbrev r_Twn_retell : Room := { frames := 5, cells := 11, slots := 61, locals := 117 }
abbrev y_Twn_noteEvents : MethodName := ⟨"SameTuesday$Town", "noteEvents", "()V"⟩
abbrev b_Twn_noteEvents : ByteArray := prog_11_method_3_code
abbrev r_Twn_noteEvents : Room := { frames := 1, cells := 0, slots := 0, locals := 21 }
abbrev y_Twn_isTold : MethodName := ⟨"SameTuesday$Town", "isTold", "()Z"⟩
abbrev b_Twn_isTold : ByteArray := prog_11_method_4_code
abbrev r_Twn_isTold : Room := { frames := 0, cells := 0, slots := 0, locals := 0 }
abbrev y_Twn_happeningCount : MethodName := ⟨"SameTuesday$Town", "happeningCount", "()I"⟩
abbrev b_Twn_happeningCount : ByteArray := prog_11_method_5_code
abbrev r_Twn_happeningCount : Room := { frames := 0, cells := 0, slots := 0, locals := 0 }
abbrev y_Twn_deedCount : MethodName := ⟨"SameTuesday$Town", "deedCount", "()I"⟩
abbrev b_Twn_deedCount : ByteArray := prog_11_method_6_code
abbrev r_Twn_deedCount : Room := { frames := 0, cells := 0, slots := 0, locals := 0 }
abbrev y_Twn_minuteCount : MethodName := ⟨"SameTuesday$Town", "minuteCount", "()I"⟩
abbrev b_Twn_minuteCount : ByteArray := prog_11_method_7_code
abbrev r_Twn_minuteCount : Room := { frames := 0, cells := 0, slots := 0, locals := 0 }
abbrev y_Twn_minuteInDay : MethodName := ⟨"SameTuesday$Town", "minuteInDay", "(I)I"⟩
abbrev b_Twn_minuteInDay : ByteArray := prog_11_method_8_code
abbrev r_Twn_minuteInDay : Room := { frames := 1, cells := 0, slots := 0, locals := 21 }
abbrev y_Twn_setMinutes : MethodName := ⟨"SameTuesday$Town", "setMinutes", "(I)V"⟩
abbrev b_Twn_setMinutes : ByteArray := prog_11_method_9_code
abbrev r_Twn_setMinutes : Room := { frames := 0, cells := 0, slots := 0, locals := 0 }
abbrev y_Twn_moveTo : MethodName := ⟨"SameTuesday$Town", "moveTo", "(LSameTuesday$Happening;I)V"⟩
abbrev b_Twn_moveTo : ByteArray := prog_11_method_10_code
abbrev r_Twn_moveTo : Room := { frames := 2, cells := 0, slots := 0, locals := 43 }
abbrev y_Twn_happeningOf : MethodName := ⟨"SameTuesday$Town", "happeningOf", "(I)LSameTuesday$Happening;"⟩
abbrev b_Twn_happeningOf : ByteArray := prog_11_method_11_code
abbrev r_Twn_happeningOf : Room := { frames := 0, cells := 0, slots := 0, locals := 0 }
abbrev y_Twn_deedOf : MethodName := ⟨"SameTuesday$Town", "deedOf", "(I)LSameTuesday$Deed;"⟩
abbrev b_Twn_deedOf : ByteArray := prog_11_method_12_code
abbrev r_Twn_deedOf : Room := { frames := 0, cells := 0, slots := 0, locals := 0 }
abbrev y_Twn_happenIn : MethodName := ⟨"SameTuesday$Town", "happenIn", "(IJI)J"⟩
abbrev b_Twn_happenIn : ByteArray := prog_11_method_13_code
abbrev r_Twn_happenIn : Room := { frames := 1, cells := 0, slots := 0, locals := 26 }
abbrev y_Twn_openTo : MethodName := ⟨"SameTuesday$Town", "openTo", "(LSameTuesday$Deed;IJ)J"⟩
abbrev b_Twn_openTo : ByteArray := prog_11_method_14_code
abbrev r_Twn_openTo : Room := { frames := 0, cells := 0, slots := 0, locals := 0 }
abbrev y_Trc_init : MethodName := ⟨"SameTuesday$Trace", "<init>", "()V"⟩
abbrev b_Trc_init : ByteArray := prog_12_method_1_code
abbrev r_Trc_init : Room := { frames := 1, cells := 0, slots := 0, locals := 20 }
abbrev y_Trc_leave : MethodName := ⟨"SameTuesday$Trace", "leave", "(I)V"⟩
abbrev b_Trc_leave : ByteArray := prog_12_method_2_code
abbrev r_Trc_leave : Room := { frames := 0, cells := 0, slots := 0, locals := 0 }
abbrev y_Trc_value : MethodName := ⟨"SameTuesday$Trace", "value", "()I"⟩
abbrev b_Trc_value : ByteArray := prog_12_method_3_code
abbrev r_Trc_value : Room := { frames := 0, cells := 0, slots := 0, locals := 0 }
abbrev y_Tue_init : MethodName := ⟨"SameTuesday", "<init>", "()V"⟩
abbrev b_Tue_init : ByteArray := prog_1_method_1_code
abbrev r_Tue_init : Room := { frames := 2, cells := 23, slots := 7000, locals := 41 }
abbrev y_Tue_tuesday : MethodName := ⟨"SameTuesday", "tuesday", "(IIII)I"⟩
abbrev b_Tue_tuesday : ByteArray := prog_1_method_2_code
abbrev r_Tue_tuesday : Room := { frames := 6, cells := 12, slots := 67, locals := 139 }
abbrev y_Tue_ofHappening : MethodName := ⟨"SameTuesday", "ofHappening", "(II)I"⟩
abbrev b_Tue_ofHappening : ByteArray := prog_1_method_3_code
abbrev r_Tue_ofHappening : Room := { frames := 1, cells := 0, slots := 0, locals := 21 }
abbrev y_Tue_ofDeed : MethodName := ⟨"SameTuesday", "ofDeed", "(II)I"⟩
abbrev b_Tue_ofDeed : ByteArray := prog_1_method_4_code
abbrev r_Tue_ofDeed : Room := { frames := 1, cells := 0, slots := 0, locals := 21 }
abbrev y_Tue_minutes : MethodName := ⟨"SameTuesday", "minutes", "(I)I"⟩
abbrev b_Tue_minutes : ByteArray := prog_1_method_5_code
abbrev r_Tue_minutes : Room := { frames := 1, cells := 0, slots := 0, locals := 21 }
abbrev y_Tue_shift : MethodName := ⟨"SameTuesday", "shift", "(II)I"⟩
abbrev b_Tue_shift : ByteArray := prog_1_method_6_code
abbrev r_Tue_shift : Room := { frames := 3, cells := 0, slots := 0, locals := 65 }
abbrev y_Tue_live : MethodName := ⟨"SameTuesday", "live", "(IIIII)I"⟩
abbrev b_Tue_live : ByteArray := prog_1_method_7_code
abbrev r_Tue_live : Room := { frames := 4, cells := 0, slots := 0, locals := 93 }
abbrev y_Tue_at : MethodName := ⟨"SameTuesday", "at", "(IIIII)I"⟩
abbrev b_Tue_at : ByteArray := prog_1_method_8_code
abbrev r_Tue_at : Room := { frames := 4, cells := 0, slots := 0, locals := 93 }
abbrev y_Tue_hangs : MethodName := ⟨"SameTuesday", "hangs", "(IIII)I"⟩
abbrev b_Tue_hangs : ByteArray := prog_1_method_9_code
abbrev r_Tue_hangs : Room := { frames := 5, cells := 0, slots := 0, locals := 116 }
abbrev y_Tue_can : MethodName := ⟨"SameTuesday", "can", "(II)I"⟩
abbrev b_Tue_can : ByteArray := prog_1_method_10_code
abbrev r_Tue_can : Room := { frames := 5, cells := 0, slots := 0, locals := 119 }
abbrev y_Tue_soonest : MethodName := ⟨"SameTuesday", "soonest", "(I)I"⟩
abbrev b_Tue_soonest : ByteArray := prog_1_method_11_code
abbrev r_Tue_soonest : Room := { frames := 6, cells := 0, slots := 0, locals := 143 }
abbrev y_Tue_bar : MethodName := ⟨"SameTuesday", "bar", "(I)I"⟩
abbrev b_Tue_bar : ByteArray := prog_1_method_12_code
abbrev r_Tue_bar : Room := { frames := 6, cells := 0, slots := 0, locals := 145 }
abbrev y_Tue_day : MethodName := ⟨"SameTuesday", "day", "(I)I"⟩
abbrev b_Tue_day : ByteArray := prog_1_method_13_code
abbrev r_Tue_day : Room := { frames := 1, cells := 0, slots := 0, locals := 21 }
abbrev y_Tue_forget : MethodName := ⟨"SameTuesday", "forget", "(I)I"⟩
abbrev b_Tue_forget : ByteArray := prog_1_method_14_code
abbrev r_Tue_forget : Room := { frames := 2, cells := 0, slots := 0, locals := 42 }
abbrev y_Tue_laws : MethodName := ⟨"SameTuesday", "laws", "(I)I"⟩
abbrev b_Tue_laws : ByteArray := prog_1_method_15_code
abbrev r_Tue_laws : Room := { frames := 4, cells := 0, slots := 0, locals := 91 }
abbrev y_Tue_fewest : MethodName := ⟨"SameTuesday", "fewest", "()I"⟩
abbrev b_Tue_fewest : ByteArray := prog_1_method_16_code
abbrev r_Tue_fewest : Room := { frames := 4, cells := 0, slots := 0, locals := 91 }
abbrev y_Tue_next : MethodName := ⟨"SameTuesday", "next", "(I)I"⟩
abbrev b_Tue_next : ByteArray := prog_1_method_17_code
abbrev r_Tue_next : Room := { frames := 5, cells := 0, slots := 0, locals := 119 }
abbrev y_Tue_others : MethodName := ⟨"SameTuesday", "others", "(IIIIII)I"⟩
abbrev b_Tue_others : ByteArray := prog_1_method_18_code
abbrev r_Tue_others : Room := { frames := 6, cells := 0, slots := 0, locals := 143 }
abbrev y_Tue_odds : MethodName := ⟨"SameTuesday", "odds", "(IIIIII)J"⟩
abbrev b_Tue_odds : ByteArray := prog_1_method_19_code
abbrev r_Tue_odds : Room := { frames := 5, cells := 0, slots := 0, locals := 116 }
abbrev y_Tue_sheet : MethodName := ⟨"SameTuesday", "sheet", "(III)I"⟩
abbrev b_Tue_sheet : ByteArray := prog_1_method_20_code
abbrev r_Tue_sheet : Room := { frames := 2, cells := 0, slots := 0, locals := 44 }
abbrev y_Tue_lose : MethodName := ⟨"SameTuesday", "lose", "(I)I"⟩
abbrev b_Tue_lose : ByteArray := prog_1_method_21_code
abbrev r_Tue_lose : Room := { frames := 1, cells := 0, slots := 0, locals := 21 }
abbrev y_Tue_put : MethodName := ⟨"SameTuesday", "put", "(III)I"⟩
abbrev b_Tue_put : ByteArray := prog_1_method_22_code
abbrev r_Tue_put : Room := { frames := 1, cells := 0, slots := 0, locals := 22 }
abbrev y_Tue_cell : MethodName := ⟨"SameTuesday", "cell", "(III)J"⟩
abbrev b_Tue_cell : ByteArray := prog_1_method_23_code
abbrev r_Tue_cell : Room := { frames := 2, cells := 0, slots := 0, locals := 46 }
abbrev y_Tue_copy : MethodName := ⟨"SameTuesday", "copy", "(IIIII)I"⟩
abbrev b_Tue_copy : ByteArray := prog_1_method_24_code
abbrev r_Tue_copy : Room := { frames := 2, cells := 0, slots := 0, locals := 50 }
abbrev y_Tue_tell : MethodName := ⟨"SameTuesday", "tell", "(I)I"⟩
abbrev b_Tue_tell : ByteArray := prog_1_method_25_code
abbrev r_Tue_tell : Room := { frames := 4, cells := 0, slots := 0, locals := 85 }
abbrev y_Tue_rhyme : MethodName := ⟨"SameTuesday", "rhyme", "(I)I"⟩
abbrev b_Tue_rhyme : ByteArray := prog_1_method_26_code
abbrev r_Tue_rhyme : Room := { frames := 2, cells := 0, slots := 0, locals := 42 }
abbrev y_Tue_as : MethodName := ⟨"SameTuesday", "as", "(II)I"⟩
abbrev b_Tue_as : ByteArray := prog_1_method_27_code
abbrev r_Tue_as : Room := { frames := 1, cells := 0, slots := 0, locals := 21 }
abbrev y_Tue_trace : MethodName := ⟨"SameTuesday", "trace", "()I"⟩
abbrev b_Tue_trace : ByteArray := prog_1_method_28_code
abbrev r_Tue_trace : Room := { frames := 1, cells := 0, slots := 0, locals := 20 }
abbrev y_Tue_fault : MethodName := ⟨"SameTuesday", "fault", "()I"⟩
abbrev b_Tue_fault : ByteArray := prog_1_method_29_code
abbrev r_Tue_fault : Room := { frames := 0, cells := 0, slots := 0, locals := 0 }
abbrev y_Tue_many : MethodName := ⟨"SameTuesday", "many", "(I)I"⟩
abbrev b_Tue_many : ByteArray := prog_1_method_30_code
abbrev r_Tue_many : Room := { frames := 1, cells := 0, slots := 0, locals := 20 }
abbrev y_Tue_faulty : MethodName := ⟨"SameTuesday", "faulty", "(I)I"⟩
abbrev b_Tue_faulty : ByteArray := prog_1_method_31_code
abbrev r_Tue_faulty : Room := { frames := 0, cells := 0, slots := 0, locals := 0 }
abbrev y_Tue_sheetOf : MethodName := ⟨"SameTuesday", "sheetOf", "(I)LSameTuesday$Sheet;"⟩
abbrev b_Tue_sheetOf : ByteArray := prog_1_method_32_code
abbrev r_Tue_sheetOf : Room := { frames := 0, cells := 0, slots := 0, locals := 0 }
abbrev y_Tue_refusalOfCells : MethodName := ⟨"SameTuesday", "refusalOfCells", "(LSameTuesday$Sheet;III)I"⟩
abbrev b_Tue_refusalOfCells : ByteArray := prog_1_method_33_code
abbrev r_Tue_refusalOfCells : Room := { frames := 1, cells := 0, slots := 0, locals := 22 }
abbrev y_Tue_takeRow : MethodName := ⟨"SameTuesday", "takeRow", "(IIIIZ)I"⟩
abbrev b_Tue_takeRow : ByteArray := prog_1_method_34_code
abbrev r_Tue_takeRow : Room := { frames := 2, cells := 0, slots := 0, locals := 47 }
abbrev y_Tue_isLane : MethodName := ⟨"SameTuesday", "isLane", "(I)Z"⟩
abbrev b_Tue_isLane : ByteArray := prog_1_method_35_code
abbrev r_Tue_isLane : Room := { frames := 0, cells := 0, slots := 0, locals := 0 }
abbrev y_Tue_isSet : MethodName := ⟨"SameTuesday", "isSet", "(I)Z"⟩
abbrev b_Tue_isSet : ByteArray := prog_1_method_36_code
abbrev r_Tue_isSet : Room := { frames := 0, cells := 0, slots := 0, locals := 0 }
abbrev y_Tue_isMinute : MethodName := ⟨"SameTuesday", "isMinute", "(I)Z"⟩
abbrev b_Tue_isMinute : ByteArray := prog_1_method_37_code
abbrev r_Tue_isMinute : Room := { frames := 0, cells := 0, slots := 0, locals := 0 }
abbrev y_Tue_greatestCommon : MethodName := ⟨"SameTuesday", "greatestCommon", "(II)I"⟩
abbrev b_Tue_greatestCommon : ByteArray := prog_1_method_38_code
abbrev r_Tue_greatestCommon : Room := { frames := 0, cells := 0, slots := 0, locals := 0 }
abbrev y_Tue_hasState : MethodName := ⟨"SameTuesday", "hasState", "(JI)Z"⟩
abbrev b_Tue_hasState : ByteArray := prog_1_method_39_code
abbrev r_Tue_hasState : Room := { frames := 0, cells := 0, slots := 0, locals := 0 }
abbrev y_Tue_worldWith : MethodName := ⟨"SameTuesday", "worldWith", "(I)J"⟩
abbrev b_Tue_worldWith : ByteArray := prog_1_method_40_code
abbrev r_Tue_worldWith : Room := { frames := 0, cells := 0, slots := 0, locals := 0 }
abbrev y_Tue_worldWithAll : MethodName := ⟨"SameTuesday", "worldWithAll", "(I)J"⟩
abbrev b_Tue_worldWithAll : ByteArray := prog_1_method_41_code
abbrev r_Tue_worldWithAll : Room := { frames := 1, cells := 0, slots := 0, locals := 20 }
abbrev y_Tue_worldWithin : MethodName := ⟨"SameTuesday", "worldWithin", "(I)J"⟩
abbrev b_Tue_worldWithin : ByteArray := prog_1_method_42_code
abbrev r_Tue_worldWithin : Room := { frames := 1, cells := 0, slots := 0, locals := 20 }
abbrev y_Tue_lesserPart : MethodName := ⟨"SameTuesday", "lesserPart", "(JI)I"⟩
abbrev b_Tue_lesserPart : ByteArray := prog_1_method_43_code
abbrev r_Tue_lesserPart : Room := { frames := 2, cells := 0, slots := 0, locals := 43 }
abbrev y_Mod_init : MethodName := ⟨"SameTuesdayModel", "<init>", "()V"⟩
abbrev b_Mod_init : ByteArray := prog_14_method_1_code
abbrev r_Mod_init : Room := { frames := 1, cells := 40, slots := 8000, locals := 20 }
abbrev y_Mod_fails : MethodName := ⟨"SameTuesdayModel", "fails", "(I)I"⟩
abbrev b_Mod_fails : ByteArray := prog_14_method_3_code
abbrev r_Mod_fails : Room := { frames := 0, cells := 0, slots := 0, locals := 0 }
abbrev y_Mod_lost : MethodName := ⟨"SameTuesdayModel", "lost", "(I)J"⟩
abbrev b_Mod_lost : ByteArray := prog_14_method_4_code
abbrev r_Mod_lost : Room := { frames := 0, cells := 0, slots := 0, locals := 0 }
abbrev y_Mod_within : MethodName := ⟨"SameTuesdayModel", "within", "(III)Z"⟩
abbrev b_Mod_within : ByteArray := prog_14_method_5_code
abbrev r_Mod_within : Room := { frames := 0, cells := 0, slots := 0, locals := 0 }
abbrev y_Mod_isSheet : MethodName := ⟨"SameTuesdayModel", "isSheet", "(I)Z"⟩
abbrev b_Mod_isSheet : ByteArray := prog_14_method_6_code
abbrev r_Mod_isSheet : Room := { frames := 1, cells := 0, slots := 0, locals := 22 }
abbrev y_Mod_isSort : MethodName := ⟨"SameTuesdayModel", "isSort", "(I)Z"⟩
abbrev b_Mod_isSort : ByteArray := prog_14_method_7_code
abbrev r_Mod_isSort : Room := { frames := 1, cells := 0, slots := 0, locals := 22 }
abbrev y_Mod_against : MethodName := ⟨"SameTuesdayModel", "against", "(IIII)I"⟩
abbrev b_Mod_against : ByteArray := prog_14_method_8_code
abbrev r_Mod_against : Room := { frames := 0, cells := 0, slots := 0, locals := 0 }
abbrev y_Mod_isHappening : MethodName := ⟨"SameTuesdayModel", "isHappening", "(I)Z"⟩
abbrev b_Mod_isHappening : ByteArray := prog_14_method_9_code
abbrev r_Mod_isHappening : Room := { frames := 0, cells := 0, slots := 0, locals := 0 }
abbrev y_Mod_isDeed : MethodName := ⟨"SameTuesdayModel", "isDeed", "(I)Z"⟩
abbrev b_Mod_isDeed : ByteArray := prog_14_method_10_code
abbrev r_Mod_isDeed : Room := { frames := 0, cells := 0, slots := 0, locals := 0 }
abbrev y_Mod_digit : MethodName := ⟨"SameTuesdayModel", "digit", "(III)I"⟩
abbrev b_Mod_digit : ByteArray := prog_14_method_11_code
abbrev r_Mod_digit : Room := { frames := 1, cells := 0, slots := 0, locals := 22 }
abbrev y_Mod_tuesday : MethodName := ⟨"SameTuesdayModel", "tuesday", "(IIII)I"⟩
abbrev b_Mod_tuesday : ByteArray := prog_14_method_12_code
abbrev r_Mod_tuesday : Room := { frames := 4, cells := 0, slots := 0, locals := 91 }
abbrev y_Mod_isSign : MethodName := ⟨"SameTuesdayModel", "isSign", "(II)Z"⟩
abbrev b_Mod_isSign : ByteArray := prog_14_method_13_code
abbrev r_Mod_isSign : Room := { frames := 0, cells := 0, slots := 0, locals := 0 }
abbrev y_Mod_readDay : MethodName := ⟨"SameTuesdayModel", "readDay", "(I)Z"⟩
abbrev b_Mod_readDay : ByteArray := prog_14_method_14_code
abbrev r_Mod_readDay : Room := { frames := 3, cells := 0, slots := 0, locals := 70 }
abbrev y_Mod_readHappening : MethodName := ⟨"SameTuesdayModel", "readHappening", "(I)Z"⟩
abbrev b_Mod_readHappening : ByteArray := prog_14_method_15_code
abbrev r_Mod_readHappening : Room := { frames := 2, cells := 0, slots := 0, locals := 45 }
abbrev y_Mod_readOneDeed : MethodName := ⟨"SameTuesdayModel", "readOneDeed", "(I)Z"⟩
abbrev b_Mod_readOneDeed : ByteArray := prog_14_method_16_code
abbrev r_Mod_readOneDeed : Room := { frames := 2, cells := 0, slots := 0, locals := 45 }
abbrev y_Mod_ofHappening : MethodName := ⟨"SameTuesdayModel", "ofHappening", "(II)I"⟩
abbrev b_Mod_ofHappening : ByteArray := prog_14_method_17_code
abbrev r_Mod_ofHappening : Room := { frames := 1, cells := 0, slots := 0, locals := 21 }
abbrev y_Mod_ofDeed : MethodName := ⟨"SameTuesdayModel", "ofDeed", "(II)I"⟩
abbrev b_Mod_ofDeed : ByteArray := prog_14_method_18_code
abbrev r_Mod_ofDeed : Room := { frames := 1, cells := 0, slots := 0, locals := 21 }
abbrev y_Mod_minutes : MethodName := ⟨"SameTuesdayModel", "minutes", "(I)I"⟩
abbrev b_Mod_minutes : ByteArray := prog_14_method_19_code
abbrev r_Mod_minutes : Room := { frames := 1, cells := 0, slots := 0, locals := 22 }
abbrev y_Mod_shift : MethodName := ⟨"SameTuesdayModel", "shift", "(II)I"⟩
abbrev b_Mod_shift : ByteArray := prog_14_method_20_code
abbrev r_Mod_shift : Room := { frames := 1, cells := 0, slots := 0, locals := 22 }
abbrev y_Mod_isMet : MethodName := ⟨"SameTuesdayModel", "isMet", "(II)Z"⟩
abbrev b_Mod_isMet : ByteArray := prog_14_method_21_code
abbrev r_Mod_isMet : Room := { frames := 0, cells := 0, slots := 0, locals := 0 }
abbrev y_Mod_happen : MethodName := ⟨"SameTuesdayModel", "happen", "(III)I"⟩
abbrev b_Mod_happen : ByteArray := prog_14_method_22_code
abbrev r_Mod_happen : Room := { frames := 1, cells := 0, slots := 0, locals := 21 }
abbrev y_Mod_done : MethodName := ⟨"SameTuesdayModel", "done", "(II)I"⟩
abbrev b_Mod_done : ByteArray := prog_14_method_23_code
abbrev r_Mod_done : Room := { frames := 0, cells := 0, slots := 0, locals := 0 }
abbrev y_Mod_mayBegin : MethodName := ⟨"SameTuesdayModel", "mayBegin", "(III)Z"⟩
abbrev b_Mod_mayBegin : ByteArray := prog_14_method_24_code
abbrev r_Mod_mayBegin : Room := { frames := 1, cells := 0, slots := 0, locals := 21 }
abbrev y_Mod_pairIn : MethodName := ⟨"SameTuesdayModel", "pairIn", "(I)I"⟩
abbrev b_Mod_pairIn : ByteArray := prog_14_method_25_code
abbrev r_Mod_pairIn : Room := { frames := 0, cells := 0, slots := 0, locals := 0 }
abbrev y_Mod_goTo : MethodName := ⟨"SameTuesdayModel", "goTo", "(II)I"⟩
abbrev b_Mod_goTo : ByteArray := prog_14_method_26_code
abbrev r_Mod_goTo : Room := { frames := 2, cells := 0, slots := 0, locals := 47 }
abbrev y_Mod_ends : MethodName := ⟨"SameTuesdayModel", "ends", "(I)I"⟩
abbrev b_Mod_ends : ByteArray := prog_14_method_27_code
abbrev r_Mod_ends : Room := { frames := 3, cells := 0, slots := 0, locals := 74 }
abbrev y_Mod_layRow : MethodName := ⟨"SameTuesdayModel", "layRow", "(IIII)I"⟩
abbrev b_Mod_layRow : ByteArray := prog_14_method_28_code
abbrev r_Mod_layRow : Room := { frames := 1, cells := 0, slots := 0, locals := 24 }
abbrev y_Mod_arePairs : MethodName := ⟨"SameTuesdayModel", "arePairs", "(II)Z"⟩
abbrev b_Mod_arePairs : ByteArray := prog_14_method_29_code
abbrev r_Mod_arePairs : Room := { frames := 2, cells := 0, slots := 0, locals := 42 }
abbrev y_Mod_live : MethodName := ⟨"SameTuesdayModel", "live", "(IIIII)I"⟩
abbrev b_Mod_live : ByteArray := prog_14_method_30_code
abbrev r_Mod_live : Room := { frames := 4, cells := 0, slots := 0, locals := 95 }
abbrev y_Mod_at : MethodName := ⟨"SameTuesdayModel", "at", "(IIIII)I"⟩
abbrev b_Mod_at : ByteArray := prog_14_method_31_code
abbrev r_Mod_at : Room := { frames := 3, cells := 0, slots := 0, locals := 74 }
abbrev y_Mod_hangs : MethodName := ⟨"SameTuesdayModel", "hangs", "(IIII)I"⟩
abbrev b_Mod_hangs : ByteArray := prog_14_method_32_code
abbrev r_Mod_hangs : Room := { frames := 4, cells := 0, slots := 0, locals := 95 }
abbrev y_Mod_place : MethodName := ⟨"SameTuesdayModel", "place", "(III)I"⟩
abbrev b_Mod_place : ByteArray := prog_14_method_33_code
abbrev r_Mod_place : Room := { frames := 0, cells := 0, slots := 0, locals := 0 }
abbrev y_Mod_happenIdle : MethodName := ⟨"SameTuesdayModel", "happenIdle", "(I)V"⟩
abbrev b_Mod_happenIdle : ByteArray := prog_14_method_34_code
abbrev r_Mod_happenIdle : Room := { frames := 2, cells := 0, slots := 0, locals := 47 }
abbrev y_Mod_happenBusy : MethodName := ⟨"SameTuesdayModel", "happenBusy", "(II)V"⟩
abbrev b_Mod_happenBusy : ByteArray := prog_14_method_35_code
abbrev r_Mod_happenBusy : Room := { frames := 2, cells := 0, slots := 0, locals := 47 }
abbrev y_Mod_endDeeds : MethodName := ⟨"SameTuesdayModel", "endDeeds", "(I)V"⟩
abbrev b_Mod_endDeeds : ByteArray := prog_14_method_36_code
abbrev r_Mod_endDeeds : Room := { frames := 1, cells := 0, slots := 0, locals := 23 }
abbrev y_Mod_beginDeeds : MethodName := ⟨"SameTuesdayModel", "beginDeeds", "(I)V"⟩
abbrev b_Mod_beginDeeds : ByteArray := prog_14_method_37_code
abbrev r_Mod_beginDeeds : Room := { frames := 2, cells := 0, slots := 0, locals := 44 }
abbrev y_Mod_beginStates : MethodName := ⟨"SameTuesdayModel", "beginStates", "()V"⟩
abbrev b_Mod_beginStates : ByteArray := prog_14_method_38_code
abbrev r_Mod_beginStates : Room := { frames := 0, cells := 0, slots := 0, locals := 0 }
abbrev y_Mod_goMinute : MethodName := ⟨"SameTuesdayModel", "goMinute", "(I)V"⟩
abbrev b_Mod_goMinute : ByteArray := prog_14_method_39_code
abbrev r_Mod_goMinute : Room := { frames := 3, cells := 0, slots := 0, locals := 70 }
abbrev y_Mod_layCanBe : MethodName := ⟨"SameTuesdayModel", "layCanBe", "()V"⟩
abbrev b_Mod_layCanBe : ByteArray := prog_14_method_40_code
abbrev r_Mod_layCanBe : Room := { frames := 0, cells := 0, slots := 0, locals := 0 }
abbrev y_Mod_goStates : MethodName := ⟨"SameTuesdayModel", "goStates", "(I)V"⟩
abbrev b_Mod_goStates : ByteArray := prog_14_method_41_code
abbrev r_Mod_goStates : Room := { frames := 4, cells := 0, slots := 0, locals := 92 }
abbrev y_Mod_isSet : MethodName := ⟨"SameTuesdayModel", "isSet", "(I)Z"⟩
abbrev b_Mod_isSet : ByteArray := prog_14_method_42_code
abbrev r_Mod_isSet : Room := { frames := 1, cells := 0, slots := 0, locals := 22 }
abbrev y_Mod_can : MethodName := ⟨"SameTuesdayModel", "can", "(II)I"⟩
abbrev b_Mod_can : ByteArray := prog_14_method_43_code
abbrev r_Mod_can : Room := { frames := 5, cells := 0, slots := 0, locals := 114 }
abbrev y_Mod_isWithinOne : MethodName := ⟨"SameTuesdayModel", "isWithinOne", "(I)Z"⟩
abbrev b_Mod_isWithinOne : ByteArray := prog_14_method_44_code
abbrev r_Mod_isWithinOne : Room := { frames := 0, cells := 0, slots := 0, locals := 0 }
abbrev y_Mod_soonest : MethodName := ⟨"SameTuesdayModel", "soonest", "(I)I"⟩
abbrev b_Mod_soonest : ByteArray := prog_14_method_45_code
abbrev r_Mod_soonest : Room := { frames := 4, cells := 0, slots := 0, locals := 92 }
abbrev y_Mod_bar : MethodName := ⟨"SameTuesdayModel", "bar", "(I)I"⟩
abbrev b_Mod_bar : ByteArray := prog_14_method_46_code
abbrev r_Mod_bar : Room := { frames := 5, cells := 0, slots := 0, locals := 114 }
abbrev y_Mod_day : MethodName := ⟨"SameTuesdayModel", "day", "(I)I"⟩
abbrev b_Mod_day : ByteArray := prog_14_method_47_code
abbrev r_Mod_day : Room := { frames := 2, cells := 0, slots := 0, locals := 42 }
abbrev y_Mod_forget : MethodName := ⟨"SameTuesdayModel", "forget", "(I)I"⟩
abbrev b_Mod_forget : ByteArray := prog_14_method_48_code
abbrev r_Mod_forget : Room := { frames := 1, cells := 0, slots := 0, locals := 22 }
abbrev y_Mod_isLaw : MethodName := ⟨"SameTuesdayModel", "isLaw", "(I)Z"⟩
abbrev b_Mod_isLaw : ByteArray := prog_14_method_49_code
abbrev r_Mod_isLaw : Room := { frames := 0, cells := 0, slots := 0, locals := 0 }
abbrev y_Mod_laws : MethodName := ⟨"SameTuesdayModel", "laws", "(I)I"⟩
abbrev b_Mod_laws : ByteArray := prog_14_method_50_code
abbrev r_Mod_laws : Room := { frames := 1, cells := 0, slots := 0, locals := 22 }
abbrev y_Mod_size : MethodName := ⟨"SameTuesdayModel", "size", "(I)I"⟩
abbrev b_Mod_size : ByteArray := prog_14_method_51_code
abbrev r_Mod_size : Room := { frames := 0, cells := 0, slots := 0, locals := 0 }
abbrev y_Mod_fewest : MethodName := ⟨"SameTuesdayModel", "fewest", "()I"⟩
abbrev b_Mod_fewest : ByteArray := prog_14_method_52_code
abbrev r_Mod_fewest : Room := { frames := 1, cells := 0, slots := 0, locals := 22 }
abbrev y_Mod_parted : MethodName := ⟨"SameTuesdayModel", "parted", "(I)I"⟩
abbrev b_Mod_parted : ByteArray := prog_14_method_53_code
abbrev r_Mod_parted : Room := { frames := 1, cells := 0, slots := 0, locals := 22 }
abbrev y_Mod_next : MethodName := ⟨"SameTuesdayModel", "next", "(I)I"⟩
abbrev b_Mod_next : ByteArray := prog_14_method_54_code
abbrev r_Mod_next : Room := { frames := 5, cells := 0, slots := 0, locals := 114 }
abbrev y_Mod_others : MethodName := ⟨"SameTuesdayModel", "others", "(IIIIII)I"⟩
abbrev b_Mod_others : ByteArray := prog_14_method_55_code
abbrev r_Mod_others : Room := { frames := 4, cells := 0, slots := 0, locals := 95 }
abbrev y_Mod_inLeastTerms : MethodName := ⟨"SameTuesdayModel", "inLeastTerms", "(JJI)J"⟩
abbrev b_Mod_inLeastTerms : ByteArray := prog_14_method_56_code
abbrev r_Mod_inLeastTerms : Room := { frames := 0, cells := 0, slots := 0, locals := 0 }
abbrev y_Mod_odds : MethodName := ⟨"SameTuesdayModel", "odds", "(IIIIII)J"⟩
abbrev b_Mod_odds : ByteArray := prog_14_method_57_code
abbrev r_Mod_odds : Room := { frames := 4, cells := 0, slots := 0, locals := 95 }
abbrev y_Mod_sheet : MethodName := ⟨"SameTuesdayModel", "sheet", "(III)I"⟩
abbrev b_Mod_sheet : ByteArray := prog_14_method_58_code
abbrev r_Mod_sheet : Room := { frames := 2, cells := 0, slots := 0, locals := 42 }
abbrev y_Mod_lose : MethodName := ⟨"SameTuesdayModel", "lose", "(I)I"⟩
abbrev b_Mod_lose : ByteArray := prog_14_method_59_code
abbrev r_Mod_lose : Room := { frames := 2, cells := 0, slots := 0, locals := 42 }
abbrev y_Mod_put : MethodName := ⟨"SameTuesdayModel", "put", "(III)I"⟩
abbrev b_Mod_put : ByteArray := prog_14_method_60_code
abbrev r_Mod_put : Room := { frames := 2, cells := 0, slots := 0, locals := 42 }
abbrev y_Mod_cell : MethodName := ⟨"SameTuesdayModel", "cell", "(III)J"⟩
abbrev b_Mod_cell : ByteArray := prog_14_method_61_code
abbrev r_Mod_cell : Room := { frames := 2, cells := 0, slots := 0, locals := 42 }
abbrev y_Mod_copy : MethodName := ⟨"SameTuesdayModel", "copy", "(IIIII)I"⟩
abbrev b_Mod_copy : ByteArray := prog_14_method_62_code
abbrev r_Mod_copy : Room := { frames := 2, cells := 0, slots := 0, locals := 42 }
abbrev y_Mod_begins : MethodName := ⟨"SameTuesdayModel", "begins", "(I)V"⟩
abbrev b_Mod_begins : ByteArray := prog_14_method_63_code
abbrev r_Mod_begins : Room := { frames := 0, cells := 0, slots := 0, locals := 0 }
abbrev y_Mod_tell : MethodName := ⟨"SameTuesdayModel", "tell", "(I)I"⟩
abbrev b_Mod_tell : ByteArray := prog_14_method_64_code
abbrev r_Mod_tell : Room := { frames := 1, cells := 0, slots := 0, locals := 21 }
abbrev y_Mod_rhyme : MethodName := ⟨"SameTuesdayModel", "rhyme", "(I)I"⟩
abbrev b_Mod_rhyme : ByteArray := prog_14_method_65_code
abbrev r_Mod_rhyme : Room := { frames := 1, cells := 0, slots := 0, locals := 21 }
abbrev y_Mod_as : MethodName := ⟨"SameTuesdayModel", "as", "(II)I"⟩
abbrev b_Mod_as : ByteArray := prog_14_method_66_code
abbrev r_Mod_as : Room := { frames := 1, cells := 0, slots := 0, locals := 22 }
abbrev y_Mod_trace : MethodName := ⟨"SameTuesdayModel", "trace", "()I"⟩
abbrev b_Mod_trace : ByteArray := prog_14_method_67_code
abbrev r_Mod_trace : Room := { frames := 0, cells := 0, slots := 0, locals := 0 }
abbrev y_Mod_fault : MethodName := ⟨"SameTuesdayModel", "fault", "()I"⟩
abbrev b_Mod_fault : ByteArray := prog_14_method_68_code
abbrev r_Mod_fault : Room := { frames := 0, cells := 0, slots := 0, locals := 0 }
abbrev y_Mod_many : MethodName := ⟨"SameTuesdayModel", "many", "(I)I"⟩
abbrev b_Mod_many : ByteArray := prog_14_method_69_code
abbrev r_Mod_many : Room := { frames := 0, cells := 0, slots := 0, locals := 0 }
abbrev y_JInt_numberOfTrailingZeros : MethodName := ⟨"java/lang/Integer", "numberOfTrailingZeros", "(I)I"⟩
abbrev b_JInt_numberOfTrailingZeros : ByteArray := prog_15_method_48_code
abbrev r_JInt_numberOfTrailingZeros : Room := { frames := 0, cells := 0, slots := 0, locals := 0 }
abbrev y_JInt_bitCount : MethodName := ⟨"java/lang/Integer", "bitCount", "(I)I"⟩
abbrev b_JInt_bitCount : ByteArray := prog_15_method_49_code
abbrev r_JInt_bitCount : Room := { frames := 0, cells := 0, slots := 0, locals := 0 }
abbrev y_JLong_numberOfTrailingZeros : MethodName := ⟨"java/lang/Long", "numberOfTrailingZeros", "(J)I"⟩
abbrev b_JLong_numberOfTrailingZeros : ByteArray := prog_16_method_49_code
abbrev r_JLong_numberOfTrailingZeros : Room := { frames := 1, cells := 0, slots := 0, locals := 21 }
abbrev y_JLong_bitCount : MethodName := ⟨"java/lang/Long", "bitCount", "(J)I"⟩
abbrev b_JLong_bitCount : ByteArray := prog_16_method_50_code
abbrev r_JLong_bitCount : Room := { frames := 0, cells := 0, slots := 0, locals := 0 }
abbrev y_LawX_law : MethodName := ⟨"SameTuesdayLaw", "law", "([I)Z"⟩
abbrev b_LawX_law : ByteArray := code
set_option maxRecDepth 20000 in
theorem f_Cap_7_0 : zb_FL "SameTuesday$Caprice" 7 0 3 := ⟨"SameTuesday$Caprice", zF_Cap, 6, "SameTuesday$Caprice", rfl, by decide, zi_Cap, zb_mem 361 rfl rfl, Or.inr (zb_mem 362 rfl rfl)⟩
set_option maxRecDepth 20000 in
theorem f_Cap_13_0 : zb_FL "SameTuesday$Caprice" 13 0 4 := ⟨"SameTuesday$Caprice", zF_Cap, 6, "SameTuesday$Caprice", rfl, by decide, zi_Cap, zb_mem 366 rfl rfl, Or.inr (zb_mem 367 rfl rfl)⟩
set_option maxRecDepth 20000 in
theorem f_Cap_18_0 : zb_FL "SameTuesday$Caprice" 18 0 2 := ⟨"SameTuesday$Caprice", zF_Cap, 6, "SameTuesday$Caprice", rfl, by decide, zi_Cap, zb_mem 357 rfl rfl, Or.inr (zb_mem 358 rfl rfl)⟩
set_option maxRecDepth 20000 in
theorem l_Cap_1 : zl_I "SameTuesday$Caprice" 1 y_Mis_init b_Mis_init 5 4 := ⟨⟨zb_mem 391 rfl rfl, zb_mem 61 rfl rfl, zb_mem 340 rfl rfl, by decide, by decide +kernel⟩, rfl, zb_mem 339 rfl rfl⟩
set_option maxRecDepth 20000 in
theorem l_Cap_22 : zl_V "SameTuesday$Caprice" 22 y_Trc_leave b_Trc_leave 2 none 1 := ⟨⟨zb_mem 843 rfl rfl, zb_mem 56 rfl rfl, zb_mem 846 rfl rfl, by decide, by decide +kernel⟩, zb_mem 844 rfl rfl, zb_mem 845 rfl rfl⟩
theorem d_Cap_init_0 : zd_l .aload_n .aload b_Cap_init 0 0 1 := Or.inl ⟨0, rfl, by decide +kernel, rfl⟩
theorem d_Cap_init_1 : zd_l .iload_n .iload b_Cap_init 1 1 2 := Or.inl ⟨1, rfl, by decide +kernel, rfl⟩
theorem d_Cap_init_2 : zd_l .iload_n .iload b_Cap_init 2 2 3 := Or.inl ⟨2, rfl, by decide +kernel, rfl⟩
theorem d_Cap_init_3 : zd_l .iload_n .iload b_Cap_init 3 3 4 := Or.inl ⟨3, rfl, by decide +kernel, rfl⟩
theorem d_Cap_init_4 : zd_l .iload_n .iload b_Cap_init 4 4 6 := Or.inr ⟨by decide +kernel, rfl⟩
theorem d_Cap_init_6 : zd b_Cap_init 6 (.invokespecial 1) 3 9 := ⟨by decide +kernel, rfl⟩
theorem d_Cap_init_9 : zd b_Cap_init 9 .return_ 1 10 := ⟨by decide +kernel, rfl⟩
theorem d_Cap_kind_0 : zd_k b_Cap_kind "SameTuesday$Caprice" 0 2 1 := Or.inl ⟨2, by decide +kernel, by decide, rfl⟩
theorem d_Cap_kind_1 : zd b_Cap_kind 1 .ireturn 1 2 := ⟨by decide +kernel, rfl⟩
theorem d_Cap_after_0 : zd_l .lload_n .lload b_Cap_after 0 1 1 := Or.inl ⟨1, rfl, by decide +kernel, rfl⟩
theorem d_Cap_after_1 : zd_l .aload_n .aload b_Cap_after 1 0 2 := Or.inl ⟨0, rfl, by decide +kernel, rfl⟩
theorem d_Cap_after_2 : zd b_Cap_after 2 (.getfield 7) 3 5 := ⟨by decide +kernel, rfl⟩
theorem d_Cap_after_5 : zd b_Cap_after 5 .land 1 6 := ⟨by decide +kernel, rfl⟩
theorem d_Cap_after_6 : zd_l .aload_n .aload b_Cap_after 6 0 7 := Or.inl ⟨0, rfl, by decide +kernel, rfl⟩
theorem d_Cap_after_7 : zd b_Cap_after 7 (.getfield 13) 3 10 := ⟨by decide +kernel, rfl⟩
set_option maxRecDepth 20000 in
theorem d_Cap_after_10 : zd_kl b_Cap_after "SameTuesday$Caprice" 10 (-1) 13 := Or.inr ⟨16, by decide +kernel, zb_mem 561 rfl rfl, rfl⟩
theorem d_Cap_after_13 : zd b_Cap_after 13 .lxor 1 14 := ⟨by decide +kernel, rfl⟩
theorem d_Cap_after_14 : zd b_Cap_after 14 .land 1 15 := ⟨by decide +kernel, rfl⟩
theorem d_Cap_after_15 : zd_l .lstore_n .lstore b_Cap_after 15 3 16 := Or.inl ⟨3, rfl, by decide +kernel, rfl⟩
theorem d_Cap_after_16 : zd_l .lload_n .lload b_Cap_after 16 1 17 := Or.inl ⟨1, rfl, by decide +kernel, rfl⟩
theorem d_Cap_after_17 : zd_l .aload_n .aload b_Cap_after 17 0 18 := Or.inl ⟨0, rfl, by decide +kernel, rfl⟩
theorem d_Cap_after_18 : zd b_Cap_after 18 (.getfield 7) 3 21 := ⟨by decide +kernel, rfl⟩
theorem d_Cap_after_21 : zd b_Cap_after 21 .land 1 22 := ⟨by decide +kernel, rfl⟩
theorem d_Cap_after_22 : zd_l .aload_n .aload b_Cap_after 22 0 23 := Or.inl ⟨0, rfl, by decide +kernel, rfl⟩
theorem d_Cap_after_23 : zd b_Cap_after 23 (.getfield 13) 3 26 := ⟨by decide +kernel, rfl⟩
theorem d_Cap_after_26 : zd b_Cap_after 26 .land 1 27 := ⟨by decide +kernel, rfl⟩
theorem d_Cap_after_27 : zd_l .lstore_n .lstore b_Cap_after 27 5 29 := Or.inr ⟨by decide +kernel, rfl⟩
theorem d_Cap_after_29 : zd_l .lload_n .lload b_Cap_after 29 1 30 := Or.inl ⟨1, rfl, by decide +kernel, rfl⟩
theorem d_Cap_after_30 : zd_l .aload_n .aload b_Cap_after 30 0 31 := Or.inl ⟨0, rfl, by decide +kernel, rfl⟩
theorem d_Cap_after_31 : zd b_Cap_after 31 (.getfield 7) 3 34 := ⟨by decide +kernel, rfl⟩
set_option maxRecDepth 20000 in
theorem d_Cap_after_34 : zd_kl b_Cap_after "SameTuesday$Caprice" 34 (-1) 37 := Or.inr ⟨16, by decide +kernel, zb_mem 561 rfl rfl, rfl⟩
theorem d_Cap_after_37 : zd b_Cap_after 37 .lxor 1 38 := ⟨by decide +kernel, rfl⟩
theorem d_Cap_after_38 : zd b_Cap_after 38 .land 1 39 := ⟨by decide +kernel, rfl⟩
theorem d_Cap_after_39 : zd_l .lload_n .lload b_Cap_after 39 3 40 := Or.inl ⟨3, rfl, by decide +kernel, rfl⟩
theorem d_Cap_after_40 : zd_k b_Cap_after "SameTuesday$Caprice" 40 1 41 := Or.inl ⟨1, by decide +kernel, by decide, rfl⟩
theorem d_Cap_after_41 : zd_l .aload_n .aload b_Cap_after 41 0 42 := Or.inl ⟨0, rfl, by decide +kernel, rfl⟩
theorem d_Cap_after_42 : zd b_Cap_after 42 (.getfield 18) 3 45 := ⟨by decide +kernel, rfl⟩
theorem d_Cap_after_45 : zd b_Cap_after 45 .ishl 1 46 := ⟨by decide +kernel, rfl⟩
theorem d_Cap_after_46 : zd b_Cap_after 46 .lshl 1 47 := ⟨by decide +kernel, rfl⟩
theorem d_Cap_after_47 : zd b_Cap_after 47 .lor 1 48 := ⟨by decide +kernel, rfl⟩
theorem d_Cap_after_48 : zd_l .lload_n .lload b_Cap_after 48 5 50 := Or.inr ⟨by decide +kernel, rfl⟩
theorem d_Cap_after_50 : zd_k b_Cap_after "SameTuesday$Caprice" 50 1 51 := Or.inl ⟨1, by decide +kernel, by decide, rfl⟩
theorem d_Cap_after_51 : zd_l .aload_n .aload b_Cap_after 51 0 52 := Or.inl ⟨0, rfl, by decide +kernel, rfl⟩
theorem d_Cap_after_52 : zd b_Cap_after 52 (.getfield 18) 3 55 := ⟨by decide +kernel, rfl⟩
theorem d_Cap_after_55 : zd b_Cap_after 55 .ishl 1 56 := ⟨by decide +kernel, rfl⟩
theorem d_Cap_after_56 : zd b_Cap_after 56 .lushr 1 57 := ⟨by decide +kernel, rfl⟩
theorem d_Cap_after_57 : zd b_Cap_after 57 .lor 1 58 := ⟨by decide +kernel, rfl⟩
theorem d_Cap_after_58 : zd b_Cap_after 58 .lreturn 1 59 := ⟨by decide +kernel, rfl⟩
theorem d_Cap_telling_0 : zd_l .aload_n .aload b_Cap_telling 0 1 1 := Or.inl ⟨1, rfl, by decide +kernel, rfl⟩
theorem d_Cap_telling_1 : zd_k b_Cap_telling "SameTuesday$Caprice" 1 3 2 := Or.inl ⟨3, by decide +kernel, by decide, rfl⟩
theorem d_Cap_telling_2 : zd b_Cap_telling 2 (.invokevirtual 22) 3 5 := ⟨by decide +kernel, rfl⟩
theorem d_Cap_telling_5 : zd_l .aload_n .aload b_Cap_telling 5 0 6 := Or.inl ⟨0, rfl, by decide +kernel, rfl⟩
theorem d_Cap_telling_6 : zd_l .aload_n .aload b_Cap_telling 6 1 7 := Or.inl ⟨1, rfl, by decide +kernel, rfl⟩
theorem d_Cap_telling_7 : zd b_Cap_telling 7 (.invokespecial 28) 3 10 := ⟨by decide +kernel, rfl⟩
theorem d_Cap_telling_10 : zd_l .istore_n .istore b_Cap_telling 10 2 11 := Or.inl ⟨2, rfl, by decide +kernel, rfl⟩
theorem d_Cap_telling_11 : zd_l .iload_n .iload b_Cap_telling 11 2 12 := Or.inl ⟨2, rfl, by decide +kernel, rfl⟩
theorem d_Cap_telling_12 : zd_l .aload_n .aload b_Cap_telling 12 0 13 := Or.inl ⟨0, rfl, by decide +kernel, rfl⟩
theorem d_Cap_telling_13 : zd_l .aload_n .aload b_Cap_telling 13 1 14 := Or.inl ⟨1, rfl, by decide +kernel, rfl⟩
theorem d_Cap_telling_14 : zd b_Cap_telling 14 (.invokevirtual 32) 3 17 := ⟨by decide +kernel, rfl⟩
theorem d_Cap_telling_17 : zd b_Cap_telling 17 .iadd 1 18 := ⟨by decide +kernel, rfl⟩
theorem d_Cap_telling_18 : zd b_Cap_telling 18 .ireturn 1 19 := ⟨by decide +kernel, rfl⟩
theorem d_Cap_rhymed_0 : zd_l .aload_n .aload b_Cap_rhymed 0 1 1 := Or.inl ⟨1, rfl, by decide +kernel, rfl⟩
theorem d_Cap_rhymed_1 : zd_k b_Cap_rhymed "SameTuesday$Caprice" 1 5 2 := Or.inl ⟨5, by decide +kernel, by decide, rfl⟩
theorem d_Cap_rhymed_2 : zd b_Cap_rhymed 2 (.invokevirtual 22) 3 5 := ⟨by decide +kernel, rfl⟩
theorem d_Cap_rhymed_5 : zd_k b_Cap_rhymed "SameTuesday$Caprice" 5 40 7 := Or.inr (Or.inl ⟨40, by decide +kernel, by decide, rfl⟩)
theorem d_Cap_rhymed_7 : zd b_Cap_rhymed 7 .ireturn 1 8 := ⟨by decide +kernel, rfl⟩
set_option maxRecDepth 20000 in
theorem p_Deed_9_1 : zb_PF "SameTuesday$Deed" 9 1 0 .int := ⟨"SameTuesday$Deed", zF_Deed, 5, "SameTuesday$Deed", zt_Deed, rfl, by decide, zi_Deed, zb_mem 424 rfl rfl, Or.inl rfl, zk_Deed, zn_Deed, rfl, rfl, rfl⟩
set_option maxRecDepth 20000 in
theorem f_Deed_15_1 : zb_FL "SameTuesday$Deed" 15 1 1 := ⟨"SameTuesday$Deed", zF_Deed, 5, "SameTuesday$Deed", rfl, by decide, zi_Deed, zb_mem 426 rfl rfl, Or.inl rfl⟩
set_option maxRecDepth 20000 in
theorem p_Deed_15_1 : zb_PF "SameTuesday$Deed" 15 1 1 .int := ⟨"SameTuesday$Deed", zF_Deed, 5, "SameTuesday$Deed", zt_Deed, rfl, by decide, zi_Deed, zb_mem 426 rfl rfl, Or.inl rfl, zk_Deed, zn_Deed, rfl, rfl, rfl⟩
set_option maxRecDepth 20000 in
theorem f_Deed_18_1 : zb_FL "SameTuesday$Deed" 18 1 2 := ⟨"SameTuesday$Deed", zF_Deed, 5, "SameTuesday$Deed", rfl, by decide, zi_Deed, zb_mem 428 rfl rfl, Or.inl rfl⟩
set_option maxRecDepth 20000 in
theorem p_Deed_18_1 : zb_PF "SameTuesday$Deed" 18 1 2 .int := ⟨"SameTuesday$Deed", zF_Deed, 5, "SameTuesday$Deed", zt_Deed, rfl, by decide, zi_Deed, zb_mem 428 rfl rfl, Or.inl rfl, zk_Deed, zn_Deed, rfl, rfl, rfl⟩
set_option maxRecDepth 20000 in
theorem p_Deed_21_1 : zb_PF "SameTuesday$Deed" 21 1 3 .int := ⟨"SameTuesday$Deed", zF_Deed, 5, "SameTuesday$Deed", zt_Deed, rfl, by decide, zi_Deed, zb_mem 430 rfl rfl, Or.inl rfl, zk_Deed, zn_Deed, rfl, rfl, rfl⟩
set_option maxRecDepth 20000 in
theorem p_Deed_28_1 : zb_PF "SameTuesday$Deed" 28 1 4 .long := ⟨"SameTuesday$Deed", zF_Deed, 5, "SameTuesday$Deed", zt_Deed, rfl, by decide, zi_Deed, zb_mem 435 rfl rfl, Or.inl rfl, zk_Deed, zn_Deed, rfl, rfl, rfl⟩
set_option maxRecDepth 20000 in
theorem l_Deed_24 : zl_N "SameTuesday$Deed" 24 y_Tue_worldWith "SameTuesday" b_Tue_worldWith 1 (some .long) 1 := ⟨List.mem_of_getElem? (i := 1) rfl, zb_mem 50 rfl rfl, zb_mem 347 rfl rfl, by decide, by decide +kernel, zb_mem 346 rfl rfl⟩
theorem d_Deed_init_0 : zd_l .aload_n .aload b_Deed_init 0 0 1 := Or.inl ⟨0, rfl, by decide +kernel, rfl⟩
theorem d_Deed_init_1 : zd b_Deed_init 1 (.invokespecial 3) 3 4 := ⟨by decide +kernel, rfl⟩
theorem d_Deed_init_4 : zd_l .aload_n .aload b_Deed_init 4 0 5 := Or.inl ⟨0, rfl, by decide +kernel, rfl⟩
theorem d_Deed_init_5 : zd_l .iload_n .iload b_Deed_init 5 1 6 := Or.inl ⟨1, rfl, by decide +kernel, rfl⟩
theorem d_Deed_init_6 : zd b_Deed_init 6 (.putfield 9) 3 9 := ⟨by decide +kernel, rfl⟩
theorem d_Deed_init_9 : zd_l .aload_n .aload b_Deed_init 9 0 10 := Or.inl ⟨0, rfl, by decide +kernel, rfl⟩
theorem d_Deed_init_10 : zd_l .iload_n .iload b_Deed_init 10 2 11 := Or.inl ⟨2, rfl, by decide +kernel, rfl⟩
theorem d_Deed_init_11 : zd b_Deed_init 11 (.putfield 15) 3 14 := ⟨by decide +kernel, rfl⟩
theorem d_Deed_init_14 : zd_l .aload_n .aload b_Deed_init 14 0 15 := Or.inl ⟨0, rfl, by decide +kernel, rfl⟩
theorem d_Deed_init_15 : zd_l .iload_n .iload b_Deed_init 15 3 16 := Or.inl ⟨3, rfl, by decide +kernel, rfl⟩
theorem d_Deed_init_16 : zd b_Deed_init 16 (.putfield 18) 3 19 := ⟨by decide +kernel, rfl⟩
theorem d_Deed_init_19 : zd_l .aload_n .aload b_Deed_init 19 0 20 := Or.inl ⟨0, rfl, by decide +kernel, rfl⟩
theorem d_Deed_init_20 : zd_l .iload_n .iload b_Deed_init 20 4 22 := Or.inr ⟨by decide +kernel, rfl⟩
theorem d_Deed_init_22 : zd b_Deed_init 22 (.putfield 21) 3 25 := ⟨by decide +kernel, rfl⟩
theorem d_Deed_init_25 : zd_l .aload_n .aload b_Deed_init 25 0 26 := Or.inl ⟨0, rfl, by decide +kernel, rfl⟩
theorem d_Deed_init_26 : zd_l .iload_n .iload b_Deed_init 26 1 27 := Or.inl ⟨1, rfl, by decide +kernel, rfl⟩
theorem d_Deed_init_27 : zd b_Deed_init 27 (.invokestatic 24) 3 30 := ⟨by decide +kernel, rfl⟩
theorem d_Deed_init_30 : zd b_Deed_init 30 (.putfield 28) 3 33 := ⟨by decide +kernel, rfl⟩
theorem d_Deed_init_33 : zd b_Deed_init 33 .return_ 1 34 := ⟨by decide +kernel, rfl⟩
theorem d_Deed_after_0 : zd_l .lload_n .lload b_Deed_after 0 1 1 := Or.inl ⟨1, rfl, by decide +kernel, rfl⟩
theorem d_Deed_after_1 : zd_l .aload_n .aload b_Deed_after 1 0 2 := Or.inl ⟨0, rfl, by decide +kernel, rfl⟩
theorem d_Deed_after_2 : zd b_Deed_after 2 (.getfield 15) 3 5 := ⟨by decide +kernel, rfl⟩
theorem d_Deed_after_5 : zd b_Deed_after 5 (.invokestatic 24) 3 8 := ⟨by decide +kernel, rfl⟩
set_option maxRecDepth 20000 in
theorem d_Deed_after_8 : zd_kl b_Deed_after "SameTuesday$Deed" 8 (-1) 11 := Or.inr ⟨32, by decide +kernel, zb_mem 576 rfl rfl, rfl⟩
theorem d_Deed_after_11 : zd b_Deed_after 11 .lxor 1 12 := ⟨by decide +kernel, rfl⟩
theorem d_Deed_after_12 : zd b_Deed_after 12 .land 1 13 := ⟨by decide +kernel, rfl⟩
theorem d_Deed_after_13 : zd_l .lstore_n .lstore b_Deed_after 13 3 14 := Or.inl ⟨3, rfl, by decide +kernel, rfl⟩
theorem d_Deed_after_14 : zd_l .lload_n .lload b_Deed_after 14 1 15 := Or.inl ⟨1, rfl, by decide +kernel, rfl⟩
theorem d_Deed_after_15 : zd_l .lload_n .lload b_Deed_after 15 3 16 := Or.inl ⟨3, rfl, by decide +kernel, rfl⟩
set_option maxRecDepth 20000 in
theorem d_Deed_after_16 : zd_kl b_Deed_after "SameTuesday$Deed" 16 (-1) 19 := Or.inr ⟨32, by decide +kernel, zb_mem 576 rfl rfl, rfl⟩
theorem d_Deed_after_19 : zd b_Deed_after 19 .lxor 1 20 := ⟨by decide +kernel, rfl⟩
theorem d_Deed_after_20 : zd b_Deed_after 20 .land 1 21 := ⟨by decide +kernel, rfl⟩
theorem d_Deed_after_21 : zd_l .lload_n .lload b_Deed_after 21 3 22 := Or.inl ⟨3, rfl, by decide +kernel, rfl⟩
theorem d_Deed_after_22 : zd_k b_Deed_after "SameTuesday$Deed" 22 1 23 := Or.inl ⟨1, by decide +kernel, by decide, rfl⟩
theorem d_Deed_after_23 : zd_l .aload_n .aload b_Deed_after 23 0 24 := Or.inl ⟨0, rfl, by decide +kernel, rfl⟩
theorem d_Deed_after_24 : zd b_Deed_after 24 (.getfield 15) 3 27 := ⟨by decide +kernel, rfl⟩
theorem d_Deed_after_27 : zd b_Deed_after 27 .ishl 1 28 := ⟨by decide +kernel, rfl⟩
theorem d_Deed_after_28 : zd b_Deed_after 28 .lshl 1 29 := ⟨by decide +kernel, rfl⟩
theorem d_Deed_after_29 : zd b_Deed_after 29 .lor 1 30 := ⟨by decide +kernel, rfl⟩
theorem d_Deed_after_30 : zd_l .lstore_n .lstore b_Deed_after 30 5 32 := Or.inr ⟨by decide +kernel, rfl⟩
theorem d_Deed_after_32 : zd_l .aload_n .aload b_Deed_after 32 0 33 := Or.inl ⟨0, rfl, by decide +kernel, rfl⟩
theorem d_Deed_after_33 : zd b_Deed_after 33 (.getfield 18) 3 36 := ⟨by decide +kernel, rfl⟩
theorem d_Deed_after_36 : zd_k b_Deed_after "SameTuesday$Deed" 36 6 38 := Or.inr (Or.inl ⟨6, by decide +kernel, by decide, rfl⟩)
theorem d_Deed_after_38 : zd_b b_Deed_after 38 (.if_icmp .ne) 41 44 := ⟨6, by decide +kernel, by decide, rfl⟩
theorem d_Deed_after_41 : zd_l .lload_n .lload b_Deed_after 41 5 43 := Or.inr ⟨by decide +kernel, rfl⟩
theorem d_Deed_after_43 : zd b_Deed_after 43 .lreturn 1 44 := ⟨by decide +kernel, rfl⟩
theorem d_Deed_after_44 : zd_l .lload_n .lload b_Deed_after 44 5 46 := Or.inr ⟨by decide +kernel, rfl⟩
theorem d_Deed_after_46 : zd_l .aload_n .aload b_Deed_after 46 0 47 := Or.inl ⟨0, rfl, by decide +kernel, rfl⟩
theorem d_Deed_after_47 : zd b_Deed_after 47 (.getfield 18) 3 50 := ⟨by decide +kernel, rfl⟩
theorem d_Deed_after_50 : zd b_Deed_after 50 (.invokestatic 24) 3 53 := ⟨by decide +kernel, rfl⟩
theorem d_Deed_after_53 : zd b_Deed_after 53 .land 1 54 := ⟨by decide +kernel, rfl⟩
theorem d_Deed_after_54 : zd_l .lstore_n .lstore b_Deed_after 54 7 56 := Or.inr ⟨by decide +kernel, rfl⟩
theorem d_Deed_after_56 : zd_l .lload_n .lload b_Deed_after 56 5 58 := Or.inr ⟨by decide +kernel, rfl⟩
theorem d_Deed_after_58 : zd_l .lload_n .lload b_Deed_after 58 7 60 := Or.inr ⟨by decide +kernel, rfl⟩
set_option maxRecDepth 20000 in
theorem d_Deed_after_60 : zd_kl b_Deed_after "SameTuesday$Deed" 60 (-1) 63 := Or.inr ⟨32, by decide +kernel, zb_mem 576 rfl rfl, rfl⟩
theorem d_Deed_after_63 : zd b_Deed_after 63 .lxor 1 64 := ⟨by decide +kernel, rfl⟩
theorem d_Deed_after_64 : zd b_Deed_after 64 .land 1 65 := ⟨by decide +kernel, rfl⟩
theorem d_Deed_after_65 : zd_l .lload_n .lload b_Deed_after 65 7 67 := Or.inr ⟨by decide +kernel, rfl⟩
theorem d_Deed_after_67 : zd_k b_Deed_after "SameTuesday$Deed" 67 1 68 := Or.inl ⟨1, by decide +kernel, by decide, rfl⟩
theorem d_Deed_after_68 : zd_l .aload_n .aload b_Deed_after 68 0 69 := Or.inl ⟨0, rfl, by decide +kernel, rfl⟩
theorem d_Deed_after_69 : zd b_Deed_after 69 (.getfield 18) 3 72 := ⟨by decide +kernel, rfl⟩
theorem d_Deed_after_72 : zd b_Deed_after 72 .ishl 1 73 := ⟨by decide +kernel, rfl⟩
theorem d_Deed_after_73 : zd b_Deed_after 73 .lushr 1 74 := ⟨by decide +kernel, rfl⟩
theorem d_Deed_after_74 : zd b_Deed_after 74 .lor 1 75 := ⟨by decide +kernel, rfl⟩
theorem d_Deed_after_75 : zd b_Deed_after 75 .lreturn 1 76 := ⟨by decide +kernel, rfl⟩
set_option maxRecDepth 20000 in
theorem f_Hap_7_2 : zb_FL "SameTuesday$Happening" 7 2 0 := ⟨"SameTuesday$Happening", zF_Hap, 6, "SameTuesday$Happening", rfl, by decide, zi_Hap, zb_mem 351 rfl rfl, Or.inl rfl⟩
set_option maxRecDepth 20000 in
theorem p_Hap_7_2 : zb_PF "SameTuesday$Happening" 7 2 0 .int := ⟨"SameTuesday$Happening", zF_Hap, 6, "SameTuesday$Happening", zt_Hap, rfl, by decide, zi_Hap, zb_mem 351 rfl rfl, Or.inl rfl, zk_Hap, zn_Hap, rfl, rfl, rfl⟩
set_option maxRecDepth 20000 in
theorem f_Hap_7_5 : zb_FL "SameTuesday$Happening" 7 5 0 := ⟨"SameTuesday$Mishap", zF_Mis, 6, "SameTuesday$Happening", rfl, by decide, zi_Mis, zb_mem 351 rfl rfl, Or.inl rfl⟩
set_option maxRecDepth 20000 in
theorem p_Hap_7_5 : zb_PF "SameTuesday$Happening" 7 5 0 .int := ⟨"SameTuesday$Mishap", zF_Mis, 6, "SameTuesday$Happening", zt_Mis, rfl, by decide, zi_Mis, zb_mem 351 rfl rfl, Or.inl rfl, zk_Mis, zn_Mis, rfl, rfl, rfl⟩
set_option maxRecDepth 20000 in
theorem f_Hap_7_0 : zb_FL "SameTuesday$Happening" 7 0 0 := ⟨"SameTuesday$Caprice", zF_Cap, 6, "SameTuesday$Happening", rfl, by decide, zi_Cap, zb_mem 351 rfl rfl, Or.inl rfl⟩
set_option maxRecDepth 20000 in
theorem p_Hap_7_0 : zb_PF "SameTuesday$Happening" 7 0 0 .int := ⟨"SameTuesday$Caprice", zF_Cap, 6, "SameTuesday$Happening", zt_Cap, rfl, by decide, zi_Cap, zb_mem 351 rfl rfl, Or.inl rfl, zk_Cap, zn_Cap, rfl, rfl, rfl⟩
set_option maxRecDepth 20000 in
theorem f_Hap_13_2 : zb_FL "SameTuesday$Happening" 13 2 5 := ⟨"SameTuesday$Happening", zF_Hap, 6, "SameTuesday$Happening", rfl, by decide, zi_Hap, zb_mem 370 rfl rfl, Or.inl rfl⟩
set_option maxRecDepth 20000 in
theorem p_Hap_13_2 : zb_PL "SameTuesday$Happening" 13 2 5 .int := ⟨"SameTuesday$Happening", zF_Hap, 6, "SameTuesday$Happening", zt_Hap, rfl, by decide, zi_Hap, zb_mem 370 rfl rfl, Or.inl rfl, zk_Hap, zn_Hap, rfl, rfl⟩
set_option maxRecDepth 20000 in
theorem f_Hap_13_5 : zb_FL "SameTuesday$Happening" 13 5 5 := ⟨"SameTuesday$Mishap", zF_Mis, 6, "SameTuesday$Happening", rfl, by decide, zi_Mis, zb_mem 370 rfl rfl, Or.inl rfl⟩
set_option maxRecDepth 20000 in
theorem p_Hap_13_5 : zb_PL "SameTuesday$Happening" 13 5 5 .int := ⟨"SameTuesday$Mishap", zF_Mis, 6, "SameTuesday$Happening", zt_Mis, rfl, by decide, zi_Mis, zb_mem 370 rfl rfl, Or.inl rfl, zk_Mis, zn_Mis, rfl, rfl⟩
set_option maxRecDepth 20000 in
theorem f_Hap_13_0 : zb_FL "SameTuesday$Happening" 13 0 5 := ⟨"SameTuesday$Caprice", zF_Cap, 6, "SameTuesday$Happening", rfl, by decide, zi_Cap, zb_mem 370 rfl rfl, Or.inl rfl⟩
set_option maxRecDepth 20000 in
theorem p_Hap_13_0 : zb_PL "SameTuesday$Happening" 13 0 5 .int := ⟨"SameTuesday$Caprice", zF_Cap, 6, "SameTuesday$Happening", zt_Cap, rfl, by decide, zi_Cap, zb_mem 370 rfl rfl, Or.inl rfl, zk_Cap, zn_Cap, rfl, rfl⟩
set_option maxRecDepth 20000 in
theorem p_Hap_16_2 : zb_PF "SameTuesday$Happening" 16 2 1 .int := ⟨"SameTuesday$Happening", zF_Hap, 6, "SameTuesday$Happening", zt_Hap, rfl, by decide, zi_Hap, zb_mem 352 rfl rfl, Or.inl rfl, zk_Hap, zn_Hap, rfl, rfl, rfl⟩
set_option maxRecDepth 20000 in
theorem p_Hap_16_5 : zb_PF "SameTuesday$Happening" 16 5 1 .int := ⟨"SameTuesday$Mishap", zF_Mis, 6, "SameTuesday$Happening", zt_Mis, rfl, by decide, zi_Mis, zb_mem 352 rfl rfl, Or.inl rfl, zk_Mis, zn_Mis, rfl, rfl, rfl⟩
set_option maxRecDepth 20000 in
theorem p_Hap_16_0 : zb_PF "SameTuesday$Happening" 16 0 1 .int := ⟨"SameTuesday$Caprice", zF_Cap, 6, "SameTuesday$Happening", zt_Cap, rfl, by decide, zi_Cap, zb_mem 352 rfl rfl, Or.inl rfl, zk_Cap, zn_Cap, rfl, rfl, rfl⟩
set_option maxRecDepth 20000 in
theorem f_Hap_19_2 : zb_FL "SameTuesday$Happening" 19 2 2 := ⟨"SameTuesday$Happening", zF_Hap, 6, "SameTuesday$Happening", rfl, by decide, zi_Hap, zb_mem 354 rfl rfl, Or.inl rfl⟩
set_option maxRecDepth 20000 in
theorem p_Hap_19_2 : zb_PF "SameTuesday$Happening" 19 2 2 .int := ⟨"SameTuesday$Happening", zF_Hap, 6, "SameTuesday$Happening", zt_Hap, rfl, by decide, zi_Hap, zb_mem 354 rfl rfl, Or.inl rfl, zk_Hap, zn_Hap, rfl, rfl, rfl⟩
set_option maxRecDepth 20000 in
theorem f_Hap_19_5 : zb_FL "SameTuesday$Happening" 19 5 2 := ⟨"SameTuesday$Mishap", zF_Mis, 6, "SameTuesday$Happening", rfl, by decide, zi_Mis, zb_mem 354 rfl rfl, Or.inl rfl⟩
set_option maxRecDepth 20000 in
theorem p_Hap_19_5 : zb_PF "SameTuesday$Happening" 19 5 2 .int := ⟨"SameTuesday$Mishap", zF_Mis, 6, "SameTuesday$Happening", zt_Mis, rfl, by decide, zi_Mis, zb_mem 354 rfl rfl, Or.inl rfl, zk_Mis, zn_Mis, rfl, rfl, rfl⟩
set_option maxRecDepth 20000 in
theorem f_Hap_19_0 : zb_FL "SameTuesday$Happening" 19 0 2 := ⟨"SameTuesday$Caprice", zF_Cap, 6, "SameTuesday$Happening", rfl, by decide, zi_Cap, zb_mem 354 rfl rfl, Or.inl rfl⟩
set_option maxRecDepth 20000 in
theorem p_Hap_19_0 : zb_PF "SameTuesday$Happening" 19 0 2 .int := ⟨"SameTuesday$Caprice", zF_Cap, 6, "SameTuesday$Happening", zt_Cap, rfl, by decide, zi_Cap, zb_mem 354 rfl rfl, Or.inl rfl, zk_Cap, zn_Cap, rfl, rfl, rfl⟩
set_option maxRecDepth 20000 in
theorem f_Hap_28_2 : zb_FL "SameTuesday$Happening" 28 2 3 := ⟨"SameTuesday$Happening", zF_Hap, 6, "SameTuesday$Happening", rfl, by decide, zi_Hap, zb_mem 360 rfl rfl, Or.inl rfl⟩
set_option maxRecDepth 20000 in
theorem p_Hap_28_2 : zb_PF "SameTuesday$Happening" 28 2 3 .long := ⟨"SameTuesday$Happening", zF_Hap, 6, "SameTuesday$Happening", zt_Hap, rfl, by decide, zi_Hap, zb_mem 360 rfl rfl, Or.inl rfl, zk_Hap, zn_Hap, rfl, rfl, rfl⟩
set_option maxRecDepth 20000 in
theorem f_Hap_28_5 : zb_FL "SameTuesday$Happening" 28 5 3 := ⟨"SameTuesday$Mishap", zF_Mis, 6, "SameTuesday$Happening", rfl, by decide, zi_Mis, zb_mem 360 rfl rfl, Or.inl rfl⟩
set_option maxRecDepth 20000 in
theorem p_Hap_28_5 : zb_PF "SameTuesday$Happening" 28 5 3 .long := ⟨"SameTuesday$Mishap", zF_Mis, 6, "SameTuesday$Happening", zt_Mis, rfl, by decide, zi_Mis, zb_mem 360 rfl rfl, Or.inl rfl, zk_Mis, zn_Mis, rfl, rfl, rfl⟩
set_option maxRecDepth 20000 in
theorem f_Hap_28_0 : zb_FL "SameTuesday$Happening" 28 0 3 := ⟨"SameTuesday$Caprice", zF_Cap, 6, "SameTuesday$Happening", rfl, by decide, zi_Cap, zb_mem 360 rfl rfl, Or.inl rfl⟩
set_option maxRecDepth 20000 in
theorem p_Hap_28_0 : zb_PF "SameTuesday$Happening" 28 0 3 .long := ⟨"SameTuesday$Caprice", zF_Cap, 6, "SameTuesday$Happening", zt_Cap, rfl, by decide, zi_Cap, zb_mem 360 rfl rfl, Or.inl rfl, zk_Cap, zn_Cap, rfl, rfl, rfl⟩
set_option maxRecDepth 20000 in
theorem f_Hap_32_2 : zb_FL "SameTuesday$Happening" 32 2 4 := ⟨"SameTuesday$Happening", zF_Hap, 6, "SameTuesday$Happening", rfl, by decide, zi_Hap, zb_mem 365 rfl rfl, Or.inl rfl⟩
set_option maxRecDepth 20000 in
theorem p_Hap_32_2 : zb_PF "SameTuesday$Happening" 32 2 4 .long := ⟨"SameTuesday$Happening", zF_Hap, 6, "SameTuesday$Happening", zt_Hap, rfl, by decide, zi_Hap, zb_mem 365 rfl rfl, Or.inl rfl, zk_Hap, zn_Hap, rfl, rfl, rfl⟩
set_option maxRecDepth 20000 in
theorem f_Hap_32_5 : zb_FL "SameTuesday$Happening" 32 5 4 := ⟨"SameTuesday$Mishap", zF_Mis, 6, "SameTuesday$Happening", rfl, by decide, zi_Mis, zb_mem 365 rfl rfl, Or.inl rfl⟩
set_option maxRecDepth 20000 in
theorem p_Hap_32_5 : zb_PF "SameTuesday$Happening" 32 5 4 .long := ⟨"SameTuesday$Mishap", zF_Mis, 6, "SameTuesday$Happening", zt_Mis, rfl, by decide, zi_Mis, zb_mem 365 rfl rfl, Or.inl rfl, zk_Mis, zn_Mis, rfl, rfl, rfl⟩
set_option maxRecDepth 20000 in
theorem f_Hap_32_0 : zb_FL "SameTuesday$Happening" 32 0 4 := ⟨"SameTuesday$Caprice", zF_Cap, 6, "SameTuesday$Happening", rfl, by decide, zi_Cap, zb_mem 365 rfl rfl, Or.inl rfl⟩
set_option maxRecDepth 20000 in
theorem p_Hap_32_0 : zb_PF "SameTuesday$Happening" 32 0 4 .long := ⟨"SameTuesday$Caprice", zF_Cap, 6, "SameTuesday$Happening", zt_Cap, rfl, by decide, zi_Cap, zb_mem 365 rfl rfl, Or.inl rfl, zk_Cap, zn_Cap, rfl, rfl, rfl⟩
set_option maxRecDepth 20000 in
theorem l_Hap_22 : zl_N "SameTuesday$Happening" 22 y_Tue_worldWith "SameTuesday" b_Tue_worldWith 1 (some .long) 1 := ⟨List.mem_of_getElem? (i := 0) rfl, zb_mem 50 rfl rfl, zb_mem 347 rfl rfl, by decide, by decide +kernel, zb_mem 346 rfl rfl⟩
set_option maxRecDepth 20000 in
theorem l_Hap_41 : zl_V "SameTuesday$Happening" 41 y_Trc_leave b_Trc_leave 2 none 1 := ⟨⟨zb_mem 858 rfl rfl, zb_mem 56 rfl rfl, zb_mem 846 rfl rfl, by decide, by decide +kernel⟩, zb_mem 844 rfl rfl, zb_mem 845 rfl rfl⟩
theorem d_Hap_init_0 : zd_l .aload_n .aload b_Hap_init 0 0 1 := Or.inl ⟨0, rfl, by decide +kernel, rfl⟩
theorem d_Hap_init_1 : zd b_Hap_init 1 (.invokespecial 1) 3 4 := ⟨by decide +kernel, rfl⟩
theorem d_Hap_init_4 : zd_l .aload_n .aload b_Hap_init 4 0 5 := Or.inl ⟨0, rfl, by decide +kernel, rfl⟩
theorem d_Hap_init_5 : zd_l .iload_n .iload b_Hap_init 5 1 6 := Or.inl ⟨1, rfl, by decide +kernel, rfl⟩
theorem d_Hap_init_6 : zd b_Hap_init 6 (.putfield 7) 3 9 := ⟨by decide +kernel, rfl⟩
theorem d_Hap_init_9 : zd_l .aload_n .aload b_Hap_init 9 0 10 := Or.inl ⟨0, rfl, by decide +kernel, rfl⟩
theorem d_Hap_init_10 : zd_l .iload_n .iload b_Hap_init 10 2 11 := Or.inl ⟨2, rfl, by decide +kernel, rfl⟩
theorem d_Hap_init_11 : zd b_Hap_init 11 (.putfield 13) 3 14 := ⟨by decide +kernel, rfl⟩
theorem d_Hap_init_14 : zd_l .aload_n .aload b_Hap_init 14 0 15 := Or.inl ⟨0, rfl, by decide +kernel, rfl⟩
theorem d_Hap_init_15 : zd_l .iload_n .iload b_Hap_init 15 3 16 := Or.inl ⟨3, rfl, by decide +kernel, rfl⟩
theorem d_Hap_init_16 : zd b_Hap_init 16 (.putfield 16) 3 19 := ⟨by decide +kernel, rfl⟩
theorem d_Hap_init_19 : zd_l .aload_n .aload b_Hap_init 19 0 20 := Or.inl ⟨0, rfl, by decide +kernel, rfl⟩
theorem d_Hap_init_20 : zd_l .iload_n .iload b_Hap_init 20 4 22 := Or.inr ⟨by decide +kernel, rfl⟩
theorem d_Hap_init_22 : zd b_Hap_init 22 (.putfield 19) 3 25 := ⟨by decide +kernel, rfl⟩
theorem d_Hap_init_25 : zd_l .aload_n .aload b_Hap_init 25 0 26 := Or.inl ⟨0, rfl, by decide +kernel, rfl⟩
theorem d_Hap_init_26 : zd_l .iload_n .iload b_Hap_init 26 3 27 := Or.inl ⟨3, rfl, by decide +kernel, rfl⟩
theorem d_Hap_init_27 : zd b_Hap_init 27 (.invokestatic 22) 3 30 := ⟨by decide +kernel, rfl⟩
theorem d_Hap_init_30 : zd b_Hap_init 30 (.putfield 28) 3 33 := ⟨by decide +kernel, rfl⟩
theorem d_Hap_init_33 : zd_l .aload_n .aload b_Hap_init 33 0 34 := Or.inl ⟨0, rfl, by decide +kernel, rfl⟩
theorem d_Hap_init_34 : zd_l .iload_n .iload b_Hap_init 34 4 36 := Or.inr ⟨by decide +kernel, rfl⟩
theorem d_Hap_init_36 : zd b_Hap_init 36 (.invokestatic 22) 3 39 := ⟨by decide +kernel, rfl⟩
theorem d_Hap_init_39 : zd b_Hap_init 39 (.putfield 32) 3 42 := ⟨by decide +kernel, rfl⟩
theorem d_Hap_init_42 : zd b_Hap_init 42 .return_ 1 43 := ⟨by decide +kernel, rfl⟩
theorem d_Hap_kind_0 : zd_k b_Hap_kind "SameTuesday$Happening" 0 0 1 := Or.inl ⟨0, by decide +kernel, by decide, rfl⟩
theorem d_Hap_kind_1 : zd b_Hap_kind 1 .ireturn 1 2 := ⟨by decide +kernel, rfl⟩
theorem d_Hap_after_0 : zd_l .lload_n .lload b_Hap_after 0 1 1 := Or.inl ⟨1, rfl, by decide +kernel, rfl⟩
theorem d_Hap_after_1 : zd_l .aload_n .aload b_Hap_after 1 0 2 := Or.inl ⟨0, rfl, by decide +kernel, rfl⟩
theorem d_Hap_after_2 : zd b_Hap_after 2 (.getfield 28) 3 5 := ⟨by decide +kernel, rfl⟩
theorem d_Hap_after_5 : zd b_Hap_after 5 .land 1 6 := ⟨by decide +kernel, rfl⟩
theorem d_Hap_after_6 : zd_l .aload_n .aload b_Hap_after 6 0 7 := Or.inl ⟨0, rfl, by decide +kernel, rfl⟩
theorem d_Hap_after_7 : zd b_Hap_after 7 (.getfield 32) 3 10 := ⟨by decide +kernel, rfl⟩
set_option maxRecDepth 20000 in
theorem d_Hap_after_10 : zd_kl b_Hap_after "SameTuesday$Happening" 10 (-1) 13 := Or.inr ⟨35, by decide +kernel, zb_mem 567 rfl rfl, rfl⟩
theorem d_Hap_after_13 : zd b_Hap_after 13 .lxor 1 14 := ⟨by decide +kernel, rfl⟩
theorem d_Hap_after_14 : zd b_Hap_after 14 .land 1 15 := ⟨by decide +kernel, rfl⟩
theorem d_Hap_after_15 : zd_l .lstore_n .lstore b_Hap_after 15 3 16 := Or.inl ⟨3, rfl, by decide +kernel, rfl⟩
theorem d_Hap_after_16 : zd_l .lload_n .lload b_Hap_after 16 1 17 := Or.inl ⟨1, rfl, by decide +kernel, rfl⟩
theorem d_Hap_after_17 : zd_l .lload_n .lload b_Hap_after 17 3 18 := Or.inl ⟨3, rfl, by decide +kernel, rfl⟩
set_option maxRecDepth 20000 in
theorem d_Hap_after_18 : zd_kl b_Hap_after "SameTuesday$Happening" 18 (-1) 21 := Or.inr ⟨35, by decide +kernel, zb_mem 567 rfl rfl, rfl⟩
theorem d_Hap_after_21 : zd b_Hap_after 21 .lxor 1 22 := ⟨by decide +kernel, rfl⟩
theorem d_Hap_after_22 : zd b_Hap_after 22 .land 1 23 := ⟨by decide +kernel, rfl⟩
theorem d_Hap_after_23 : zd_l .lload_n .lload b_Hap_after 23 3 24 := Or.inl ⟨3, rfl, by decide +kernel, rfl⟩
theorem d_Hap_after_24 : zd_k b_Hap_after "SameTuesday$Happening" 24 1 25 := Or.inl ⟨1, by decide +kernel, by decide, rfl⟩
theorem d_Hap_after_25 : zd_l .aload_n .aload b_Hap_after 25 0 26 := Or.inl ⟨0, rfl, by decide +kernel, rfl⟩
theorem d_Hap_after_26 : zd b_Hap_after 26 (.getfield 19) 3 29 := ⟨by decide +kernel, rfl⟩
theorem d_Hap_after_29 : zd b_Hap_after 29 .ishl 1 30 := ⟨by decide +kernel, rfl⟩
theorem d_Hap_after_30 : zd b_Hap_after 30 .lshl 1 31 := ⟨by decide +kernel, rfl⟩
theorem d_Hap_after_31 : zd b_Hap_after 31 .lor 1 32 := ⟨by decide +kernel, rfl⟩
theorem d_Hap_after_32 : zd b_Hap_after 32 .lreturn 1 33 := ⟨by decide +kernel, rfl⟩
theorem d_Hap_telling_0 : zd_l .aload_n .aload b_Hap_telling 0 0 1 := Or.inl ⟨0, rfl, by decide +kernel, rfl⟩
theorem d_Hap_telling_1 : zd_l .aload_n .aload b_Hap_telling 1 1 2 := Or.inl ⟨1, rfl, by decide +kernel, rfl⟩
theorem d_Hap_telling_2 : zd b_Hap_telling 2 (.invokevirtual 37) 3 5 := ⟨by decide +kernel, rfl⟩
theorem d_Hap_telling_5 : zd b_Hap_telling 5 .ireturn 1 6 := ⟨by decide +kernel, rfl⟩
theorem d_Hap_plainTelling_0 : zd_l .aload_n .aload b_Hap_plainTelling 0 1 1 := Or.inl ⟨1, rfl, by decide +kernel, rfl⟩
theorem d_Hap_plainTelling_1 : zd_k b_Hap_plainTelling "SameTuesday$Happening" 1 1 2 := Or.inl ⟨1, by decide +kernel, by decide, rfl⟩
theorem d_Hap_plainTelling_2 : zd b_Hap_plainTelling 2 (.invokevirtual 41) 3 5 := ⟨by decide +kernel, rfl⟩
theorem d_Hap_plainTelling_5 : zd_l .aload_n .aload b_Hap_plainTelling 5 0 6 := Or.inl ⟨0, rfl, by decide +kernel, rfl⟩
theorem d_Hap_plainTelling_6 : zd b_Hap_plainTelling 6 (.getfield 13) 3 9 := ⟨by decide +kernel, rfl⟩
theorem d_Hap_plainTelling_9 : zd b_Hap_plainTelling 9 .ireturn 1 10 := ⟨by decide +kernel, rfl⟩
theorem d_Hap_rhymed_0 : zd_l .aload_n .aload b_Hap_rhymed 0 1 1 := Or.inl ⟨1, rfl, by decide +kernel, rfl⟩
theorem d_Hap_rhymed_1 : zd_k b_Hap_rhymed "SameTuesday$Happening" 1 4 2 := Or.inl ⟨4, by decide +kernel, by decide, rfl⟩
theorem d_Hap_rhymed_2 : zd b_Hap_rhymed 2 (.invokevirtual 41) 3 5 := ⟨by decide +kernel, rfl⟩
theorem d_Hap_rhymed_5 : zd_l .aload_n .aload b_Hap_rhymed 5 0 6 := Or.inl ⟨0, rfl, by decide +kernel, rfl⟩
theorem d_Hap_rhymed_6 : zd b_Hap_rhymed 6 (.getfield 7) 3 9 := ⟨by decide +kernel, rfl⟩
theorem d_Hap_rhymed_9 : zd b_Hap_rhymed 9 .ireturn 1 10 := ⟨by decide +kernel, rfl⟩
set_option maxRecDepth 20000 in
theorem f_Law_9_3 : zb_FL "SameTuesday$Law" 9 3 0 := ⟨"SameTuesday$Law", zF_Law, 2, "SameTuesday$Law", rfl, by decide, zi_Law, zb_mem 194 rfl rfl, Or.inl rfl⟩
set_option maxRecDepth 20000 in
theorem p_Law_9_3 : zb_PF "SameTuesday$Law" 9 3 0 (.array .int) := ⟨"SameTuesday$Law", zF_Law, 2, "SameTuesday$Law", zt_Law, rfl, by decide, zi_Law, zb_mem 194 rfl rfl, Or.inl rfl, zk_Law, zn_Law, rfl, rfl, rfl⟩
set_option maxRecDepth 20000 in
theorem f_Law_15_3 : zb_FL "SameTuesday$Law" 15 3 1 := ⟨"SameTuesday$Law", zF_Law, 2, "SameTuesday$Law", rfl, by decide, zi_Law, zb_mem 195 rfl rfl, Or.inl rfl⟩
set_option maxRecDepth 20000 in
theorem p_Law_15_3 : zb_PL "SameTuesday$Law" 15 3 1 .int := ⟨"SameTuesday$Law", zF_Law, 2, "SameTuesday$Law", zt_Law, rfl, by decide, zi_Law, zb_mem 195 rfl rfl, Or.inl rfl, zk_Law, zn_Law, rfl, rfl⟩
set_option maxRecDepth 20000 in
theorem l_Law_27 : zl_N "SameTuesday$Law" 27 y_Tue_worldWithin "SameTuesday" b_Tue_worldWithin 4 (some .long) 1 := ⟨List.mem_of_getElem? (i := 4) rfl, zb_mem 50 rfl rfl, zb_mem 717 rfl rfl, by decide, by decide +kernel, zb_mem 716 rfl rfl⟩
set_option maxRecDepth 20000 in
theorem l_Law_31 : zl_V "SameTuesday$Law" 31 y_Law_possible b_Law_possible 4 (some .long) 0 := ⟨⟨zb_mem 728 rfl rfl, zb_mem 55 rfl rfl, zb_mem 713 rfl rfl, by decide, by decide +kernel⟩, zb_mem 711 rfl rfl, zb_mem 712 rfl rfl⟩
set_option maxRecDepth 20000 in
theorem l_Law_35 : zl_N "SameTuesday$Law" 35 y_Tue_hasState "SameTuesday" b_Tue_hasState 3 (some .boolean) 2 := ⟨List.mem_of_getElem? (i := 5) rfl, zb_mem 50 rfl rfl, zb_mem 668 rfl rfl, by decide, by decide +kernel, zb_mem 667 rfl rfl⟩
set_option maxRecDepth 20000 in
theorem l_Law_39 : zl_S "SameTuesday$Law" 39 y_JInt_bitCount b_JInt_bitCount 1 (some .int) 1 := ⟨⟨zb_mem 738 rfl rfl, zb_mem 65 rfl rfl, zb_mem 740 rfl rfl, by decide, by decide +kernel⟩, zb_mem 739 rfl rfl⟩
set_option maxRecDepth 20000 in
theorem l_Law_45 : zl_N "SameTuesday$Law" 45 y_Tue_lesserPart "SameTuesday" b_Tue_lesserPart 4 (some .int) 2 := ⟨List.mem_of_getElem? (i := 6) rfl, zb_mem 50 rfl rfl, zb_mem 754 rfl rfl, by decide, by decide +kernel, zb_mem 753 rfl rfl⟩
theorem d_Law_init_0 : zd_l .aload_n .aload b_Law_init 0 0 1 := Or.inl ⟨0, rfl, by decide +kernel, rfl⟩
theorem d_Law_init_1 : zd b_Law_init 1 (.invokespecial 3) 3 4 := ⟨by decide +kernel, rfl⟩
theorem d_Law_init_4 : zd_l .aload_n .aload b_Law_init 4 0 5 := Or.inl ⟨0, rfl, by decide +kernel, rfl⟩
theorem d_Law_init_5 : zd_k b_Law_init "SameTuesday$Law" 5 8 7 := Or.inr (Or.inl ⟨8, by decide +kernel, by decide, rfl⟩)
theorem d_Law_init_7 : zd b_Law_init 7 (.newarray .int) 2 9 := ⟨by decide +kernel, rfl⟩
theorem d_Law_init_9 : zd b_Law_init 9 (.putfield 9) 3 12 := ⟨by decide +kernel, rfl⟩
theorem d_Law_init_12 : zd_l .aload_n .aload b_Law_init 12 0 13 := Or.inl ⟨0, rfl, by decide +kernel, rfl⟩
theorem d_Law_init_13 : zd_k b_Law_init "SameTuesday$Law" 13 0 14 := Or.inl ⟨0, by decide +kernel, by decide, rfl⟩
theorem d_Law_init_14 : zd b_Law_init 14 (.putfield 15) 3 17 := ⟨by decide +kernel, rfl⟩
theorem d_Law_init_17 : zd b_Law_init 17 .return_ 1 18 := ⟨by decide +kernel, rfl⟩
theorem d_Law_dayCount_0 : zd_l .aload_n .aload b_Law_dayCount 0 0 1 := Or.inl ⟨0, rfl, by decide +kernel, rfl⟩
theorem d_Law_dayCount_1 : zd b_Law_dayCount 1 (.getfield 15) 3 4 := ⟨by decide +kernel, rfl⟩
theorem d_Law_dayCount_4 : zd b_Law_dayCount 4 .ireturn 1 5 := ⟨by decide +kernel, rfl⟩
theorem d_Law_isFull_0 : zd_l .aload_n .aload b_Law_isFull 0 0 1 := Or.inl ⟨0, rfl, by decide +kernel, rfl⟩
theorem d_Law_isFull_1 : zd b_Law_isFull 1 (.getfield 15) 3 4 := ⟨by decide +kernel, rfl⟩
theorem d_Law_isFull_4 : zd_l .aload_n .aload b_Law_isFull 4 0 5 := Or.inl ⟨0, rfl, by decide +kernel, rfl⟩
theorem d_Law_isFull_5 : zd b_Law_isFull 5 (.getfield 9) 3 8 := ⟨by decide +kernel, rfl⟩
theorem d_Law_isFull_8 : zd b_Law_isFull 8 .arraylength 1 9 := ⟨by decide +kernel, rfl⟩
theorem d_Law_isFull_9 : zd_b b_Law_isFull 9 (.if_icmp .lt) 12 16 := ⟨7, by decide +kernel, by decide, rfl⟩
theorem d_Law_isFull_12 : zd_k b_Law_isFull "SameTuesday$Law" 12 1 13 := Or.inl ⟨1, by decide +kernel, by decide, rfl⟩
theorem d_Law_isFull_13 : zd_b b_Law_isFull 13 .goto 16 17 := ⟨4, by decide +kernel, by decide, rfl⟩
theorem d_Law_isFull_16 : zd_k b_Law_isFull "SameTuesday$Law" 16 0 17 := Or.inl ⟨0, by decide +kernel, by decide, rfl⟩
theorem d_Law_isFull_17 : zd b_Law_isFull 17 .ireturn 1 18 := ⟨by decide +kernel, rfl⟩
theorem d_Law_addDay_0 : zd_l .aload_n .aload b_Law_addDay 0 0 1 := Or.inl ⟨0, rfl, by decide +kernel, rfl⟩
theorem d_Law_addDay_1 : zd b_Law_addDay 1 (.getfield 15) 3 4 := ⟨by decide +kernel, rfl⟩
theorem d_Law_addDay_4 : zd_b b_Law_addDay 4 (.ifCond .lt) 7 39 := ⟨35, by decide +kernel, by decide, rfl⟩
theorem d_Law_addDay_7 : zd_l .aload_n .aload b_Law_addDay 7 0 8 := Or.inl ⟨0, rfl, by decide +kernel, rfl⟩
theorem d_Law_addDay_8 : zd b_Law_addDay 8 (.getfield 15) 3 11 := ⟨by decide +kernel, rfl⟩
theorem d_Law_addDay_11 : zd_l .aload_n .aload b_Law_addDay 11 0 12 := Or.inl ⟨0, rfl, by decide +kernel, rfl⟩
theorem d_Law_addDay_12 : zd b_Law_addDay 12 (.getfield 9) 3 15 := ⟨by decide +kernel, rfl⟩
theorem d_Law_addDay_15 : zd b_Law_addDay 15 .arraylength 1 16 := ⟨by decide +kernel, rfl⟩
theorem d_Law_addDay_16 : zd_b b_Law_addDay 16 (.if_icmp .ge) 19 39 := ⟨23, by decide +kernel, by decide, rfl⟩
theorem d_Law_addDay_19 : zd_l .aload_n .aload b_Law_addDay 19 0 20 := Or.inl ⟨0, rfl, by decide +kernel, rfl⟩
theorem d_Law_addDay_20 : zd b_Law_addDay 20 (.getfield 9) 3 23 := ⟨by decide +kernel, rfl⟩
theorem d_Law_addDay_23 : zd_l .aload_n .aload b_Law_addDay 23 0 24 := Or.inl ⟨0, rfl, by decide +kernel, rfl⟩
theorem d_Law_addDay_24 : zd b_Law_addDay 24 (.getfield 15) 3 27 := ⟨by decide +kernel, rfl⟩
theorem d_Law_addDay_27 : zd_l .iload_n .iload b_Law_addDay 27 1 28 := Or.inl ⟨1, rfl, by decide +kernel, rfl⟩
theorem d_Law_addDay_28 : zd b_Law_addDay 28 .iastore 1 29 := ⟨by decide +kernel, rfl⟩
theorem d_Law_addDay_29 : zd_l .aload_n .aload b_Law_addDay 29 0 30 := Or.inl ⟨0, rfl, by decide +kernel, rfl⟩
theorem d_Law_addDay_30 : zd b_Law_addDay 30 .dup 1 31 := ⟨by decide +kernel, rfl⟩
theorem d_Law_addDay_31 : zd b_Law_addDay 31 (.getfield 15) 3 34 := ⟨by decide +kernel, rfl⟩
theorem d_Law_addDay_34 : zd_k b_Law_addDay "SameTuesday$Law" 34 1 35 := Or.inl ⟨1, by decide +kernel, by decide, rfl⟩
theorem d_Law_addDay_35 : zd b_Law_addDay 35 .iadd 1 36 := ⟨by decide +kernel, rfl⟩
theorem d_Law_addDay_36 : zd b_Law_addDay 36 (.putfield 15) 3 39 := ⟨by decide +kernel, rfl⟩
theorem d_Law_addDay_39 : zd b_Law_addDay 39 .return_ 1 40 := ⟨by decide +kernel, rfl⟩
theorem d_Law_dropLast_0 : zd_l .aload_n .aload b_Law_dropLast 0 0 1 := Or.inl ⟨0, rfl, by decide +kernel, rfl⟩
theorem d_Law_dropLast_1 : zd_k b_Law_dropLast "SameTuesday$Law" 1 0 2 := Or.inl ⟨0, by decide +kernel, by decide, rfl⟩
theorem d_Law_dropLast_2 : zd_l .aload_n .aload b_Law_dropLast 2 0 3 := Or.inl ⟨0, rfl, by decide +kernel, rfl⟩
theorem d_Law_dropLast_3 : zd b_Law_dropLast 3 (.getfield 15) 3 6 := ⟨by decide +kernel, rfl⟩
theorem d_Law_dropLast_6 : zd_l .iload_n .iload b_Law_dropLast 6 1 7 := Or.inl ⟨1, rfl, by decide +kernel, rfl⟩
theorem d_Law_dropLast_7 : zd b_Law_dropLast 7 .isub 1 8 := ⟨by decide +kernel, rfl⟩
theorem d_Law_dropLast_8 : zd b_Law_dropLast 8 (.invokestatic 19) 3 11 := ⟨by decide +kernel, rfl⟩
theorem d_Law_dropLast_11 : zd b_Law_dropLast 11 (.putfield 15) 3 14 := ⟨by decide +kernel, rfl⟩
theorem d_Law_dropLast_14 : zd b_Law_dropLast 14 .return_ 1 15 := ⟨by decide +kernel, rfl⟩
set_option maxRecDepth 20000 in
theorem d_Law_possible_0 : zd_kl b_Law_possible "SameTuesday$Law" 0 (-1) 3 := Or.inr ⟨25, by decide +kernel, zb_mem 714 rfl rfl, rfl⟩
theorem d_Law_possible_3 : zd_l .lstore_n .lstore b_Law_possible 3 1 4 := Or.inl ⟨1, rfl, by decide +kernel, rfl⟩
theorem d_Law_possible_4 : zd_k b_Law_possible "SameTuesday$Law" 4 0 5 := Or.inl ⟨0, by decide +kernel, by decide, rfl⟩
theorem d_Law_possible_5 : zd_l .istore_n .istore b_Law_possible 5 3 6 := Or.inl ⟨3, rfl, by decide +kernel, rfl⟩
theorem d_Law_possible_6 : zd_l .iload_n .iload b_Law_possible 6 3 7 := Or.inl ⟨3, rfl, by decide +kernel, rfl⟩
theorem d_Law_possible_7 : zd_l .aload_n .aload b_Law_possible 7 0 8 := Or.inl ⟨0, rfl, by decide +kernel, rfl⟩
theorem d_Law_possible_8 : zd b_Law_possible 8 (.getfield 15) 3 11 := ⟨by decide +kernel, rfl⟩
theorem d_Law_possible_11 : zd_b b_Law_possible 11 (.if_icmp .ge) 14 45 := ⟨34, by decide +kernel, by decide, rfl⟩
theorem d_Law_possible_14 : zd_l .iload_n .iload b_Law_possible 14 3 15 := Or.inl ⟨3, rfl, by decide +kernel, rfl⟩
theorem d_Law_possible_15 : zd_l .aload_n .aload b_Law_possible 15 0 16 := Or.inl ⟨0, rfl, by decide +kernel, rfl⟩
theorem d_Law_possible_16 : zd b_Law_possible 16 (.getfield 9) 3 19 := ⟨by decide +kernel, rfl⟩
theorem d_Law_possible_19 : zd b_Law_possible 19 .arraylength 1 20 := ⟨by decide +kernel, rfl⟩
theorem d_Law_possible_20 : zd_b b_Law_possible 20 (.if_icmp .ge) 23 45 := ⟨25, by decide +kernel, by decide, rfl⟩
theorem d_Law_possible_23 : zd_l .lload_n .lload b_Law_possible 23 1 24 := Or.inl ⟨1, rfl, by decide +kernel, rfl⟩
theorem d_Law_possible_24 : zd_l .aload_n .aload b_Law_possible 24 0 25 := Or.inl ⟨0, rfl, by decide +kernel, rfl⟩
theorem d_Law_possible_25 : zd b_Law_possible 25 (.getfield 9) 3 28 := ⟨by decide +kernel, rfl⟩
theorem d_Law_possible_28 : zd_l .iload_n .iload b_Law_possible 28 3 29 := Or.inl ⟨3, rfl, by decide +kernel, rfl⟩
theorem d_Law_possible_29 : zd b_Law_possible 29 .iaload 1 30 := ⟨by decide +kernel, rfl⟩
theorem d_Law_possible_30 : zd b_Law_possible 30 (.invokestatic 27) 3 33 := ⟨by decide +kernel, rfl⟩
set_option maxRecDepth 20000 in
theorem d_Law_possible_33 : zd_kl b_Law_possible "SameTuesday$Law" 33 (-1) 36 := Or.inr ⟨25, by decide +kernel, zb_mem 714 rfl rfl, rfl⟩
theorem d_Law_possible_36 : zd b_Law_possible 36 .lxor 1 37 := ⟨by decide +kernel, rfl⟩
theorem d_Law_possible_37 : zd b_Law_possible 37 .land 1 38 := ⟨by decide +kernel, rfl⟩
theorem d_Law_possible_38 : zd_l .lstore_n .lstore b_Law_possible 38 1 39 := Or.inl ⟨1, rfl, by decide +kernel, rfl⟩
theorem d_Law_possible_39 : zd_i b_Law_possible 39 3 1 1 42 := ⟨by decide +kernel, by decide, rfl⟩
theorem d_Law_possible_42 : zd_b b_Law_possible 42 .goto 45 6 := ⟨(-36), by decide +kernel, by decide, rfl⟩
theorem d_Law_possible_45 : zd_l .lload_n .lload b_Law_possible 45 1 46 := Or.inl ⟨1, rfl, by decide +kernel, rfl⟩
theorem d_Law_possible_46 : zd b_Law_possible 46 .lreturn 1 47 := ⟨by decide +kernel, rfl⟩
theorem d_Law_possibleAt_0 : zd_l .aload_n .aload b_Law_possibleAt 0 0 1 := Or.inl ⟨0, rfl, by decide +kernel, rfl⟩
theorem d_Law_possibleAt_1 : zd b_Law_possibleAt 1 (.invokevirtual 31) 3 4 := ⟨by decide +kernel, rfl⟩
theorem d_Law_possibleAt_4 : zd_l .lstore_n .lstore b_Law_possibleAt 4 2 5 := Or.inl ⟨2, rfl, by decide +kernel, rfl⟩
theorem d_Law_possibleAt_5 : zd_k b_Law_possibleAt "SameTuesday$Law" 5 0 6 := Or.inl ⟨0, by decide +kernel, by decide, rfl⟩
theorem d_Law_possibleAt_6 : zd_l .istore_n .istore b_Law_possibleAt 6 4 8 := Or.inr ⟨by decide +kernel, rfl⟩
theorem d_Law_possibleAt_8 : zd_k b_Law_possibleAt "SameTuesday$Law" 8 0 9 := Or.inl ⟨0, by decide +kernel, by decide, rfl⟩
theorem d_Law_possibleAt_9 : zd_l .istore_n .istore b_Law_possibleAt 9 5 11 := Or.inr ⟨by decide +kernel, rfl⟩
theorem d_Law_possibleAt_11 : zd_l .iload_n .iload b_Law_possibleAt 11 5 13 := Or.inr ⟨by decide +kernel, rfl⟩
theorem d_Law_possibleAt_13 : zd_k b_Law_possibleAt "SameTuesday$Law" 13 64 15 := Or.inr (Or.inl ⟨64, by decide +kernel, by decide, rfl⟩)
theorem d_Law_possibleAt_15 : zd_b b_Law_possibleAt 15 (.if_icmp .ge) 18 45 := ⟨30, by decide +kernel, by decide, rfl⟩
theorem d_Law_possibleAt_18 : zd_l .lload_n .lload b_Law_possibleAt 18 2 19 := Or.inl ⟨2, rfl, by decide +kernel, rfl⟩
theorem d_Law_possibleAt_19 : zd_l .iload_n .iload b_Law_possibleAt 19 5 21 := Or.inr ⟨by decide +kernel, rfl⟩
theorem d_Law_possibleAt_21 : zd b_Law_possibleAt 21 (.invokestatic 35) 3 24 := ⟨by decide +kernel, rfl⟩
theorem d_Law_possibleAt_24 : zd_b b_Law_possibleAt 24 (.ifCond .eq) 27 39 := ⟨15, by decide +kernel, by decide, rfl⟩
theorem d_Law_possibleAt_27 : zd_l .iload_n .iload b_Law_possibleAt 27 4 29 := Or.inr ⟨by decide +kernel, rfl⟩
theorem d_Law_possibleAt_29 : zd_l .iload_n .iload b_Law_possibleAt 29 1 30 := Or.inl ⟨1, rfl, by decide +kernel, rfl⟩
theorem d_Law_possibleAt_30 : zd_b b_Law_possibleAt 30 (.if_icmp .ne) 33 36 := ⟨6, by decide +kernel, by decide, rfl⟩
theorem d_Law_possibleAt_33 : zd_l .iload_n .iload b_Law_possibleAt 33 5 35 := Or.inr ⟨by decide +kernel, rfl⟩
theorem d_Law_possibleAt_35 : zd b_Law_possibleAt 35 .ireturn 1 36 := ⟨by decide +kernel, rfl⟩
theorem d_Law_possibleAt_36 : zd_i b_Law_possibleAt 36 4 1 1 39 := ⟨by decide +kernel, by decide, rfl⟩
theorem d_Law_possibleAt_39 : zd_i b_Law_possibleAt 39 5 1 1 42 := ⟨by decide +kernel, by decide, rfl⟩
theorem d_Law_possibleAt_42 : zd_b b_Law_possibleAt 42 .goto 45 11 := ⟨(-31), by decide +kernel, by decide, rfl⟩
theorem d_Law_possibleAt_45 : zd_k b_Law_possibleAt "SameTuesday$Law" 45 (-9) 47 := Or.inr (Or.inl ⟨(-9), by decide +kernel, by decide, rfl⟩)
theorem d_Law_possibleAt_47 : zd b_Law_possibleAt 47 .ireturn 1 48 := ⟨by decide +kernel, rfl⟩
theorem d_Law_ofFewestFacts_0 : zd_l .aload_n .aload b_Law_ofFewestFacts 0 0 1 := Or.inl ⟨0, rfl, by decide +kernel, rfl⟩
theorem d_Law_ofFewestFacts_1 : zd b_Law_ofFewestFacts 1 (.invokevirtual 31) 3 4 := ⟨by decide +kernel, rfl⟩
theorem d_Law_ofFewestFacts_4 : zd_l .lstore_n .lstore b_Law_ofFewestFacts 4 1 5 := Or.inl ⟨1, rfl, by decide +kernel, rfl⟩
theorem d_Law_ofFewestFacts_5 : zd_k b_Law_ofFewestFacts "SameTuesday$Law" 5 (-9) 7 := Or.inr (Or.inl ⟨(-9), by decide +kernel, by decide, rfl⟩)
theorem d_Law_ofFewestFacts_7 : zd_l .istore_n .istore b_Law_ofFewestFacts 7 3 8 := Or.inl ⟨3, rfl, by decide +kernel, rfl⟩
theorem d_Law_ofFewestFacts_8 : zd_k b_Law_ofFewestFacts "SameTuesday$Law" 8 0 9 := Or.inl ⟨0, by decide +kernel, by decide, rfl⟩
theorem d_Law_ofFewestFacts_9 : zd_l .istore_n .istore b_Law_ofFewestFacts 9 4 11 := Or.inr ⟨by decide +kernel, rfl⟩
theorem d_Law_ofFewestFacts_11 : zd_l .iload_n .iload b_Law_ofFewestFacts 11 4 13 := Or.inr ⟨by decide +kernel, rfl⟩
theorem d_Law_ofFewestFacts_13 : zd_k b_Law_ofFewestFacts "SameTuesday$Law" 13 64 15 := Or.inr (Or.inl ⟨64, by decide +kernel, by decide, rfl⟩)
theorem d_Law_ofFewestFacts_15 : zd_b b_Law_ofFewestFacts 15 (.if_icmp .ge) 18 66 := ⟨51, by decide +kernel, by decide, rfl⟩
theorem d_Law_ofFewestFacts_18 : zd_l .iload_n .iload b_Law_ofFewestFacts 18 3 19 := Or.inl ⟨3, rfl, by decide +kernel, rfl⟩
theorem d_Law_ofFewestFacts_19 : zd_k b_Law_ofFewestFacts "SameTuesday$Law" 19 (-9) 21 := Or.inr (Or.inl ⟨(-9), by decide +kernel, by decide, rfl⟩)
theorem d_Law_ofFewestFacts_21 : zd_b b_Law_ofFewestFacts 21 (.if_icmp .eq) 24 36 := ⟨15, by decide +kernel, by decide, rfl⟩
theorem d_Law_ofFewestFacts_24 : zd_l .iload_n .iload b_Law_ofFewestFacts 24 4 26 := Or.inr ⟨by decide +kernel, rfl⟩
theorem d_Law_ofFewestFacts_26 : zd b_Law_ofFewestFacts 26 (.invokestatic 39) 3 29 := ⟨by decide +kernel, rfl⟩
theorem d_Law_ofFewestFacts_29 : zd_l .iload_n .iload b_Law_ofFewestFacts 29 3 30 := Or.inl ⟨3, rfl, by decide +kernel, rfl⟩
theorem d_Law_ofFewestFacts_30 : zd b_Law_ofFewestFacts 30 (.invokestatic 39) 3 33 := ⟨by decide +kernel, rfl⟩
theorem d_Law_ofFewestFacts_33 : zd_b b_Law_ofFewestFacts 33 (.if_icmp .ge) 36 40 := ⟨7, by decide +kernel, by decide, rfl⟩
theorem d_Law_ofFewestFacts_36 : zd_k b_Law_ofFewestFacts "SameTuesday$Law" 36 1 37 := Or.inl ⟨1, by decide +kernel, by decide, rfl⟩
theorem d_Law_ofFewestFacts_37 : zd_b b_Law_ofFewestFacts 37 .goto 40 41 := ⟨4, by decide +kernel, by decide, rfl⟩
theorem d_Law_ofFewestFacts_40 : zd_k b_Law_ofFewestFacts "SameTuesday$Law" 40 0 41 := Or.inl ⟨0, by decide +kernel, by decide, rfl⟩
theorem d_Law_ofFewestFacts_41 : zd_l .istore_n .istore b_Law_ofFewestFacts 41 5 43 := Or.inr ⟨by decide +kernel, rfl⟩
theorem d_Law_ofFewestFacts_43 : zd_l .lload_n .lload b_Law_ofFewestFacts 43 1 44 := Or.inl ⟨1, rfl, by decide +kernel, rfl⟩
theorem d_Law_ofFewestFacts_44 : zd_l .iload_n .iload b_Law_ofFewestFacts 44 4 46 := Or.inr ⟨by decide +kernel, rfl⟩
theorem d_Law_ofFewestFacts_46 : zd b_Law_ofFewestFacts 46 (.invokestatic 35) 3 49 := ⟨by decide +kernel, rfl⟩
theorem d_Law_ofFewestFacts_49 : zd_b b_Law_ofFewestFacts 49 (.ifCond .eq) 52 60 := ⟨11, by decide +kernel, by decide, rfl⟩
theorem d_Law_ofFewestFacts_52 : zd_l .iload_n .iload b_Law_ofFewestFacts 52 5 54 := Or.inr ⟨by decide +kernel, rfl⟩
theorem d_Law_ofFewestFacts_54 : zd_b b_Law_ofFewestFacts 54 (.ifCond .eq) 57 60 := ⟨6, by decide +kernel, by decide, rfl⟩
theorem d_Law_ofFewestFacts_57 : zd_l .iload_n .iload b_Law_ofFewestFacts 57 4 59 := Or.inr ⟨by decide +kernel, rfl⟩
theorem d_Law_ofFewestFacts_59 : zd_l .istore_n .istore b_Law_ofFewestFacts 59 3 60 := Or.inl ⟨3, rfl, by decide +kernel, rfl⟩
theorem d_Law_ofFewestFacts_60 : zd_i b_Law_ofFewestFacts 60 4 1 1 63 := ⟨by decide +kernel, by decide, rfl⟩
theorem d_Law_ofFewestFacts_63 : zd_b b_Law_ofFewestFacts 63 .goto 66 11 := ⟨(-52), by decide +kernel, by decide, rfl⟩
theorem d_Law_ofFewestFacts_66 : zd_l .iload_n .iload b_Law_ofFewestFacts 66 3 67 := Or.inl ⟨3, rfl, by decide +kernel, rfl⟩
theorem d_Law_ofFewestFacts_67 : zd b_Law_ofFewestFacts 67 .ireturn 1 68 := ⟨by decide +kernel, rfl⟩
theorem d_Law_partingBest_0 : zd_l .aload_n .aload b_Law_partingBest 0 0 1 := Or.inl ⟨0, rfl, by decide +kernel, rfl⟩
theorem d_Law_partingBest_1 : zd b_Law_partingBest 1 (.invokevirtual 31) 3 4 := ⟨by decide +kernel, rfl⟩
theorem d_Law_partingBest_4 : zd_l .lstore_n .lstore b_Law_partingBest 4 3 5 := Or.inl ⟨3, rfl, by decide +kernel, rfl⟩
theorem d_Law_partingBest_5 : zd_k b_Law_partingBest "SameTuesday$Law" 5 (-9) 7 := Or.inr (Or.inl ⟨(-9), by decide +kernel, by decide, rfl⟩)
theorem d_Law_partingBest_7 : zd_l .istore_n .istore b_Law_partingBest 7 5 9 := Or.inr ⟨by decide +kernel, rfl⟩
theorem d_Law_partingBest_9 : zd_k b_Law_partingBest "SameTuesday$Law" 9 (-1) 10 := Or.inl ⟨(-1), by decide +kernel, by decide, rfl⟩
theorem d_Law_partingBest_10 : zd_l .istore_n .istore b_Law_partingBest 10 6 12 := Or.inr ⟨by decide +kernel, rfl⟩
theorem d_Law_partingBest_12 : zd_k b_Law_partingBest "SameTuesday$Law" 12 0 13 := Or.inl ⟨0, by decide +kernel, by decide, rfl⟩
theorem d_Law_partingBest_13 : zd_l .istore_n .istore b_Law_partingBest 13 7 15 := Or.inr ⟨by decide +kernel, rfl⟩
theorem d_Law_partingBest_15 : zd_l .iload_n .iload b_Law_partingBest 15 7 17 := Or.inr ⟨by decide +kernel, rfl⟩
theorem d_Law_partingBest_17 : zd_k b_Law_partingBest "SameTuesday$Law" 17 64 19 := Or.inr (Or.inl ⟨64, by decide +kernel, by decide, rfl⟩)
theorem d_Law_partingBest_19 : zd_b b_Law_partingBest 19 (.if_icmp .ge) 22 60 := ⟨41, by decide +kernel, by decide, rfl⟩
theorem d_Law_partingBest_22 : zd_l .lload_n .lload b_Law_partingBest 22 1 23 := Or.inl ⟨1, rfl, by decide +kernel, rfl⟩
theorem d_Law_partingBest_23 : zd_l .iload_n .iload b_Law_partingBest 23 7 25 := Or.inr ⟨by decide +kernel, rfl⟩
theorem d_Law_partingBest_25 : zd b_Law_partingBest 25 (.invokestatic 35) 3 28 := ⟨by decide +kernel, rfl⟩
theorem d_Law_partingBest_28 : zd_b b_Law_partingBest 28 (.ifCond .eq) 31 54 := ⟨26, by decide +kernel, by decide, rfl⟩
theorem d_Law_partingBest_31 : zd_l .lload_n .lload b_Law_partingBest 31 3 32 := Or.inl ⟨3, rfl, by decide +kernel, rfl⟩
theorem d_Law_partingBest_32 : zd_l .iload_n .iload b_Law_partingBest 32 7 34 := Or.inr ⟨by decide +kernel, rfl⟩
theorem d_Law_partingBest_34 : zd b_Law_partingBest 34 (.invokestatic 45) 3 37 := ⟨by decide +kernel, rfl⟩
theorem d_Law_partingBest_37 : zd_l .iload_n .iload b_Law_partingBest 37 6 39 := Or.inr ⟨by decide +kernel, rfl⟩
theorem d_Law_partingBest_39 : zd_b b_Law_partingBest 39 (.if_icmp .le) 42 54 := ⟨15, by decide +kernel, by decide, rfl⟩
theorem d_Law_partingBest_42 : zd_l .iload_n .iload b_Law_partingBest 42 7 44 := Or.inr ⟨by decide +kernel, rfl⟩
theorem d_Law_partingBest_44 : zd_l .istore_n .istore b_Law_partingBest 44 5 46 := Or.inr ⟨by decide +kernel, rfl⟩
theorem d_Law_partingBest_46 : zd_l .lload_n .lload b_Law_partingBest 46 3 47 := Or.inl ⟨3, rfl, by decide +kernel, rfl⟩
theorem d_Law_partingBest_47 : zd_l .iload_n .iload b_Law_partingBest 47 7 49 := Or.inr ⟨by decide +kernel, rfl⟩
theorem d_Law_partingBest_49 : zd b_Law_partingBest 49 (.invokestatic 45) 3 52 := ⟨by decide +kernel, rfl⟩
theorem d_Law_partingBest_52 : zd_l .istore_n .istore b_Law_partingBest 52 6 54 := Or.inr ⟨by decide +kernel, rfl⟩
theorem d_Law_partingBest_54 : zd_i b_Law_partingBest 54 7 1 1 57 := ⟨by decide +kernel, by decide, rfl⟩
theorem d_Law_partingBest_57 : zd_b b_Law_partingBest 57 .goto 60 15 := ⟨(-42), by decide +kernel, by decide, rfl⟩
theorem d_Law_partingBest_60 : zd_l .iload_n .iload b_Law_partingBest 60 5 62 := Or.inr ⟨by decide +kernel, rfl⟩
theorem d_Law_partingBest_62 : zd b_Law_partingBest 62 .ireturn 1 63 := ⟨by decide +kernel, rfl⟩
set_option maxRecDepth 20000 in
theorem f_Life_9_4 : zb_FL "SameTuesday$Life" 9 4 0 := ⟨"SameTuesday$Life", zF_Life, 12, "SameTuesday$Life", rfl, by decide, zi_Life, zb_mem 128 rfl rfl, Or.inl rfl⟩
set_option maxRecDepth 20000 in
theorem p_Life_9_4 : zb_PF "SameTuesday$Life" 9 4 0 (.object "SameTuesday$Town") := ⟨"SameTuesday$Life", zF_Life, 12, "SameTuesday$Life", zt_Life, rfl, by decide, zi_Life, zb_mem 128 rfl rfl, Or.inl rfl, zk_Life, zn_Life, rfl, rfl, rfl⟩
set_option maxRecDepth 20000 in
theorem f_Life_15_4 : zb_FL "SameTuesday$Life" 15 4 1 := ⟨"SameTuesday$Life", zF_Life, 12, "SameTuesday$Life", rfl, by decide, zi_Life, zb_mem 129 rfl rfl, Or.inl rfl⟩
set_option maxRecDepth 20000 in
theorem p_Life_15_4 : zb_PF "SameTuesday$Life" 15 4 1 (.array .int) := ⟨"SameTuesday$Life", zF_Life, 12, "SameTuesday$Life", zt_Life, rfl, by decide, zi_Life, zb_mem 129 rfl rfl, Or.inl rfl, zk_Life, zn_Life, rfl, rfl, rfl⟩
set_option maxRecDepth 20000 in
theorem f_Life_19_4 : zb_FL "SameTuesday$Life" 19 4 2 := ⟨"SameTuesday$Life", zF_Life, 12, "SameTuesday$Life", rfl, by decide, zi_Life, zb_mem 130 rfl rfl, Or.inl rfl⟩
set_option maxRecDepth 20000 in
theorem p_Life_19_4 : zb_PF "SameTuesday$Life" 19 4 2 (.array .int) := ⟨"SameTuesday$Life", zF_Life, 12, "SameTuesday$Life", zt_Life, rfl, by decide, zi_Life, zb_mem 130 rfl rfl, Or.inl rfl, zk_Life, zn_Life, rfl, rfl, rfl⟩
set_option maxRecDepth 20000 in
theorem f_Life_22_4 : zb_FL "SameTuesday$Life" 22 4 3 := ⟨"SameTuesday$Life", zF_Life, 12, "SameTuesday$Life", rfl, by decide, zi_Life, zb_mem 131 rfl rfl, Or.inl rfl⟩
set_option maxRecDepth 20000 in
theorem p_Life_22_4 : zb_PL "SameTuesday$Life" 22 4 3 .int := ⟨"SameTuesday$Life", zF_Life, 12, "SameTuesday$Life", zt_Life, rfl, by decide, zi_Life, zb_mem 131 rfl rfl, Or.inl rfl, zk_Life, zn_Life, rfl, rfl⟩
set_option maxRecDepth 20000 in
theorem f_Life_26_4 : zb_FL "SameTuesday$Life" 26 4 4 := ⟨"SameTuesday$Life", zF_Life, 12, "SameTuesday$Life", rfl, by decide, zi_Life, zb_mem 132 rfl rfl, Or.inl rfl⟩
set_option maxRecDepth 20000 in
theorem p_Life_26_4 : zb_PF "SameTuesday$Life" 26 4 4 (.array .long) := ⟨"SameTuesday$Life", zF_Life, 12, "SameTuesday$Life", zt_Life, rfl, by decide, zi_Life, zb_mem 132 rfl rfl, Or.inl rfl, zk_Life, zn_Life, rfl, rfl, rfl⟩
set_option maxRecDepth 20000 in
theorem f_Life_30_4 : zb_FL "SameTuesday$Life" 30 4 5 := ⟨"SameTuesday$Life", zF_Life, 12, "SameTuesday$Life", rfl, by decide, zi_Life, zb_mem 133 rfl rfl, Or.inl rfl⟩
set_option maxRecDepth 20000 in
theorem p_Life_30_4 : zb_PL "SameTuesday$Life" 30 4 5 .long := ⟨"SameTuesday$Life", zF_Life, 12, "SameTuesday$Life", zt_Life, rfl, by decide, zi_Life, zb_mem 133 rfl rfl, Or.inl rfl, zk_Life, zn_Life, rfl, rfl⟩
set_option maxRecDepth 20000 in
theorem f_Life_34_4 : zb_FL "SameTuesday$Life" 34 4 6 := ⟨"SameTuesday$Life", zF_Life, 12, "SameTuesday$Life", rfl, by decide, zi_Life, zb_mem 134 rfl rfl, Or.inl rfl⟩
set_option maxRecDepth 20000 in
theorem p_Life_34_4 : zb_PL "SameTuesday$Life" 34 4 6 (.object "SameTuesday$Deed") := ⟨"SameTuesday$Life", zF_Life, 12, "SameTuesday$Life", zt_Life, rfl, by decide, zi_Life, zb_mem 134 rfl rfl, Or.inl rfl, zk_Life, zn_Life, rfl, rfl⟩
set_option maxRecDepth 20000 in
theorem f_Life_38_4 : zb_FL "SameTuesday$Life" 38 4 7 := ⟨"SameTuesday$Life", zF_Life, 12, "SameTuesday$Life", rfl, by decide, zi_Life, zb_mem 135 rfl rfl, Or.inl rfl⟩
set_option maxRecDepth 20000 in
theorem p_Life_38_4 : zb_PL "SameTuesday$Life" 38 4 7 .int := ⟨"SameTuesday$Life", zF_Life, 12, "SameTuesday$Life", zt_Life, rfl, by decide, zi_Life, zb_mem 135 rfl rfl, Or.inl rfl, zk_Life, zn_Life, rfl, rfl⟩
set_option maxRecDepth 20000 in
theorem f_Life_41_4 : zb_FL "SameTuesday$Life" 41 4 8 := ⟨"SameTuesday$Life", zF_Life, 12, "SameTuesday$Life", rfl, by decide, zi_Life, zb_mem 136 rfl rfl, Or.inl rfl⟩
set_option maxRecDepth 20000 in
theorem p_Life_41_4 : zb_PL "SameTuesday$Life" 41 4 8 .int := ⟨"SameTuesday$Life", zF_Life, 12, "SameTuesday$Life", zt_Life, rfl, by decide, zi_Life, zb_mem 136 rfl rfl, Or.inl rfl, zk_Life, zn_Life, rfl, rfl⟩
set_option maxRecDepth 20000 in
theorem f_Life_44_4 : zb_FL "SameTuesday$Life" 44 4 9 := ⟨"SameTuesday$Life", zF_Life, 12, "SameTuesday$Life", rfl, by decide, zi_Life, zb_mem 137 rfl rfl, Or.inl rfl⟩
set_option maxRecDepth 20000 in
theorem p_Life_44_4 : zb_PL "SameTuesday$Life" 44 4 9 .int := ⟨"SameTuesday$Life", zF_Life, 12, "SameTuesday$Life", zt_Life, rfl, by decide, zi_Life, zb_mem 137 rfl rfl, Or.inl rfl, zk_Life, zn_Life, rfl, rfl⟩
set_option maxRecDepth 20000 in
theorem f_Life_47_4 : zb_FL "SameTuesday$Life" 47 4 10 := ⟨"SameTuesday$Life", zF_Life, 12, "SameTuesday$Life", rfl, by decide, zi_Life, zb_mem 138 rfl rfl, Or.inl rfl⟩
set_option maxRecDepth 20000 in
theorem p_Life_47_4 : zb_PL "SameTuesday$Life" 47 4 10 (.object "SameTuesday$Deed") := ⟨"SameTuesday$Life", zF_Life, 12, "SameTuesday$Life", zt_Life, rfl, by decide, zi_Life, zb_mem 138 rfl rfl, Or.inl rfl, zk_Life, zn_Life, rfl, rfl⟩
set_option maxRecDepth 20000 in
theorem f_Life_50_4 : zb_FL "SameTuesday$Life" 50 4 11 := ⟨"SameTuesday$Life", zF_Life, 12, "SameTuesday$Life", rfl, by decide, zi_Life, zb_mem 139 rfl rfl, Or.inl rfl⟩
set_option maxRecDepth 20000 in
theorem p_Life_50_4 : zb_PL "SameTuesday$Life" 50 4 11 .int := ⟨"SameTuesday$Life", zF_Life, 12, "SameTuesday$Life", zt_Life, rfl, by decide, zi_Life, zb_mem 139 rfl rfl, Or.inl rfl, zk_Life, zn_Life, rfl, rfl⟩
set_option maxRecDepth 20000 in
theorem f_Life_118_1 : zb_FL "SameTuesday$Life" 118 1 3 := ⟨"SameTuesday$Deed", zF_Deed, 5, "SameTuesday$Deed", rfl, by decide, zi_Deed, zb_mem 432 rfl rfl, Or.inl rfl⟩
set_option maxRecDepth 20000 in
theorem l_Life_53 : zl_V "SameTuesday$Life" 53 y_Sht_cellAt b_Sht_cellAt 2 (some .int) 1 := ⟨⟨zb_mem 538 rfl rfl, zb_mem 51 rfl rfl, zb_mem 300 rfl rfl, by decide, by decide +kernel⟩, zb_mem 298 rfl rfl, zb_mem 299 rfl rfl⟩
set_option maxRecDepth 20000 in
theorem l_Life_59 : zl_N "SameTuesday$Life" 59 y_Tue_isMinute "SameTuesday" b_Tue_isMinute 1 (some .boolean) 1 := ⟨List.mem_of_getElem? (i := 2) rfl, zb_mem 50 rfl rfl, zb_mem 521 rfl rfl, by decide, by decide +kernel, zb_mem 520 rfl rfl⟩
set_option maxRecDepth 20000 in
theorem l_Life_63 : zl_V "SameTuesday$Life" 63 y_Twn_deedOf b_Twn_deedOf 2 (some (.object "SameTuesday$Deed")) 1 := ⟨⟨zb_mem 540 rfl rfl, zb_mem 52 rfl rfl, zb_mem 498 rfl rfl, by decide, by decide +kernel⟩, zb_mem 496 rfl rfl, zb_mem 497 rfl rfl⟩
set_option maxRecDepth 20000 in
theorem l_Life_69 : zl_V "SameTuesday$Life" 69 y_Twn_minuteInDay b_Twn_minuteInDay 2 (some .int) 1 := ⟨⟨zb_mem 545 rfl rfl, zb_mem 52 rfl rfl, zb_mem 548 rfl rfl, by decide, by decide +kernel⟩, zb_mem 546 rfl rfl, zb_mem 547 rfl rfl⟩
set_option maxRecDepth 20000 in
theorem l_Life_78 : zl_V "SameTuesday$Life" 78 y_Twn_happenIn b_Twn_happenIn 9 (some .long) 3 := ⟨⟨zb_mem 550 rfl rfl, zb_mem 52 rfl rfl, zb_mem 553 rfl rfl, by decide, by decide +kernel⟩, zb_mem 551 rfl rfl, zb_mem 552 rfl rfl⟩
set_option maxRecDepth 20000 in
theorem l_Life_82 : zl_V "SameTuesday$Life" 82 y_Life_endDeeds b_Life_endDeeds 2 none 1 := ⟨⟨zb_mem 568 rfl rfl, zb_mem 53 rfl rfl, zb_mem 571 rfl rfl, by decide, by decide +kernel⟩, zb_mem 570 rfl rfl, zb_mem 8 rfl rfl⟩
set_option maxRecDepth 20000 in
theorem l_Life_86 : zl_V "SameTuesday$Life" 86 y_Life_beginPairs b_Life_beginPairs 3 none 1 := ⟨⟨zb_mem 577 rfl rfl, zb_mem 53 rfl rfl, zb_mem 580 rfl rfl, by decide, by decide +kernel⟩, zb_mem 579 rfl rfl, zb_mem 9 rfl rfl⟩
set_option maxRecDepth 20000 in
theorem l_Life_89 : zl_V "SameTuesday$Life" 89 y_Life_noteWrong b_Life_noteWrong 2 none 1 := ⟨⟨zb_mem 597 rfl rfl, zb_mem 53 rfl rfl, zb_mem 600 rfl rfl, by decide, by decide +kernel⟩, zb_mem 599 rfl rfl, zb_mem 13 rfl rfl⟩
set_option maxRecDepth 20000 in
theorem l_Life_92 : zl_S "SameTuesday$Life" 92 y_JLong_numberOfTrailingZeros b_JLong_numberOfTrailingZeros 3 (some .int) 1 := ⟨⟨zb_mem 601 rfl rfl, zb_mem 64 rfl rfl, zb_mem 603 rfl rfl, by decide, by decide +kernel⟩, zb_mem 602 rfl rfl⟩
set_option maxRecDepth 20000 in
theorem l_Life_98 : zl_V "SameTuesday$Life" 98 y_Deed_after b_Deed_after 9 (some .long) 1 := ⟨⟨zb_mem 572 rfl rfl, zb_mem 63 rfl rfl, zb_mem 575 rfl rfl, by decide, by decide +kernel⟩, zb_mem 573 rfl rfl, zb_mem 574 rfl rfl⟩
set_option maxRecDepth 20000 in
theorem l_Life_104 : zl_V "SameTuesday$Life" 104 y_Life_minuteOfPair b_Life_minuteOfPair 2 (some .int) 1 := ⟨⟨zb_mem 581 rfl rfl, zb_mem 53 rfl rfl, zb_mem 584 rfl rfl, by decide, by decide +kernel⟩, zb_mem 583 rfl rfl, zb_mem 10 rfl rfl⟩
set_option maxRecDepth 20000 in
theorem l_Life_107 : zl_V "SameTuesday$Life" 107 y_Life_deedOfPair b_Life_deedOfPair 2 (some (.object "SameTuesday$Deed")) 1 := ⟨⟨zb_mem 585 rfl rfl, zb_mem 53 rfl rfl, zb_mem 588 rfl rfl, by decide, by decide +kernel⟩, zb_mem 587 rfl rfl, zb_mem 11 rfl rfl⟩
set_option maxRecDepth 20000 in
theorem l_Life_110 : zl_V "SameTuesday$Life" 110 y_Life_begin b_Life_begin 3 (some .boolean) 2 := ⟨⟨zb_mem 589 rfl rfl, zb_mem 53 rfl rfl, zb_mem 592 rfl rfl, by decide, by decide +kernel⟩, zb_mem 591 rfl rfl, zb_mem 12 rfl rfl⟩
set_option maxRecDepth 20000 in
theorem l_Life_114 : zl_V "SameTuesday$Life" 114 y_Twn_openTo b_Twn_openTo 5 (some .long) 3 := ⟨⟨zb_mem 593 rfl rfl, zb_mem 52 rfl rfl, zb_mem 596 rfl rfl, by decide, by decide +kernel⟩, zb_mem 594 rfl rfl, zb_mem 595 rfl rfl⟩
set_option maxRecDepth 20000 in
theorem l_Life_121 : zl_V "SameTuesday$Life" 121 y_Life_factsAt b_Life_factsAt 5 (some .int) 2 := ⟨⟨zb_mem 624 rfl rfl, zb_mem 53 rfl rfl, zb_mem 544 rfl rfl, by decide, by decide +kernel⟩, zb_mem 542 rfl rfl, zb_mem 543 rfl rfl⟩
set_option maxRecDepth 20000 in
theorem l_Life_124 : zl_V "SameTuesday$Life" 124 y_Twn_happeningCount b_Twn_happeningCount 1 (some .int) 0 := ⟨⟨zb_mem 625 rfl rfl, zb_mem 52 rfl rfl, zb_mem 474 rfl rfl, by decide, by decide +kernel⟩, zb_mem 472 rfl rfl, zb_mem 473 rfl rfl⟩
set_option maxRecDepth 20000 in
theorem l_Life_128 : zl_V "SameTuesday$Life" 128 y_Twn_minuteCount b_Twn_minuteCount 1 (some .int) 0 := ⟨⟨zb_mem 766 rfl rfl, zb_mem 52 rfl rfl, zb_mem 510 rfl rfl, by decide, by decide +kernel⟩, zb_mem 508 rfl rfl, zb_mem 509 rfl rfl⟩
set_option maxRecDepth 20000 in
theorem l_Life_131 : zl_V "SameTuesday$Life" 131 y_Twn_deedCount b_Twn_deedCount 1 (some .int) 0 := ⟨⟨zb_mem 767 rfl rfl, zb_mem 52 rfl rfl, zb_mem 770 rfl rfl, by decide, by decide +kernel⟩, zb_mem 768 rfl rfl, zb_mem 769 rfl rfl⟩
set_option maxRecDepth 20000 in
theorem l_Life_134 : zl_V "SameTuesday$Life" 134 y_Life_endsWith b_Life_endsWith 5 (some .boolean) 3 := ⟨⟨zb_mem 771 rfl rfl, zb_mem 53 rfl rfl, zb_mem 774 rfl rfl, by decide, by decide +kernel⟩, zb_mem 773 rfl rfl, zb_mem 19 rfl rfl⟩
theorem d_Life_init_0 : zd_l .aload_n .aload b_Life_init 0 0 1 := Or.inl ⟨0, rfl, by decide +kernel, rfl⟩
theorem d_Life_init_1 : zd b_Life_init 1 (.invokespecial 3) 3 4 := ⟨by decide +kernel, rfl⟩
theorem d_Life_init_4 : zd_l .aload_n .aload b_Life_init 4 0 5 := Or.inl ⟨0, rfl, by decide +kernel, rfl⟩
theorem d_Life_init_5 : zd_l .aload_n .aload b_Life_init 5 1 6 := Or.inl ⟨1, rfl, by decide +kernel, rfl⟩
theorem d_Life_init_6 : zd b_Life_init 6 (.putfield 9) 3 9 := ⟨by decide +kernel, rfl⟩
theorem d_Life_init_9 : zd_l .aload_n .aload b_Life_init 9 0 10 := Or.inl ⟨0, rfl, by decide +kernel, rfl⟩
theorem d_Life_init_10 : zd_k b_Life_init "SameTuesday$Life" 10 20 12 := Or.inr (Or.inl ⟨20, by decide +kernel, by decide, rfl⟩)
theorem d_Life_init_12 : zd b_Life_init 12 (.newarray .int) 2 14 := ⟨by decide +kernel, rfl⟩
theorem d_Life_init_14 : zd b_Life_init 14 (.putfield 15) 3 17 := ⟨by decide +kernel, rfl⟩
theorem d_Life_init_17 : zd_l .aload_n .aload b_Life_init 17 0 18 := Or.inl ⟨0, rfl, by decide +kernel, rfl⟩
theorem d_Life_init_18 : zd_k b_Life_init "SameTuesday$Life" 18 20 20 := Or.inr (Or.inl ⟨20, by decide +kernel, by decide, rfl⟩)
theorem d_Life_init_20 : zd b_Life_init 20 (.newarray .int) 2 22 := ⟨by decide +kernel, rfl⟩
theorem d_Life_init_22 : zd b_Life_init 22 (.putfield 19) 3 25 := ⟨by decide +kernel, rfl⟩
theorem d_Life_init_25 : zd_l .aload_n .aload b_Life_init 25 0 26 := Or.inl ⟨0, rfl, by decide +kernel, rfl⟩
theorem d_Life_init_26 : zd_k b_Life_init "SameTuesday$Life" 26 0 27 := Or.inl ⟨0, by decide +kernel, by decide, rfl⟩
theorem d_Life_init_27 : zd b_Life_init 27 (.putfield 22) 3 30 := ⟨by decide +kernel, rfl⟩
theorem d_Life_init_30 : zd_l .aload_n .aload b_Life_init 30 0 31 := Or.inl ⟨0, rfl, by decide +kernel, rfl⟩
theorem d_Life_init_31 : zd_k b_Life_init "SameTuesday$Life" 31 60 33 := Or.inr (Or.inl ⟨60, by decide +kernel, by decide, rfl⟩)
theorem d_Life_init_33 : zd b_Life_init 33 (.newarray .long) 2 35 := ⟨by decide +kernel, rfl⟩
theorem d_Life_init_35 : zd b_Life_init 35 (.putfield 26) 3 38 := ⟨by decide +kernel, rfl⟩
theorem d_Life_init_38 : zd_l .aload_n .aload b_Life_init 38 0 39 := Or.inl ⟨0, rfl, by decide +kernel, rfl⟩
theorem d_Life_init_39 : zd_kl b_Life_init "SameTuesday$Life" 39 1 40 := Or.inl ⟨1, by decide +kernel, by decide, rfl⟩
theorem d_Life_init_40 : zd b_Life_init 40 (.putfield 30) 3 43 := ⟨by decide +kernel, rfl⟩
theorem d_Life_init_43 : zd_l .aload_n .aload b_Life_init 43 0 44 := Or.inl ⟨0, rfl, by decide +kernel, rfl⟩
theorem d_Life_init_44 : zd b_Life_init 44 .aconst_null 1 45 := ⟨by decide +kernel, rfl⟩
theorem d_Life_init_45 : zd b_Life_init 45 (.putfield 34) 3 48 := ⟨by decide +kernel, rfl⟩
theorem d_Life_init_48 : zd_l .aload_n .aload b_Life_init 48 0 49 := Or.inl ⟨0, rfl, by decide +kernel, rfl⟩
theorem d_Life_init_49 : zd_k b_Life_init "SameTuesday$Life" 49 0 50 := Or.inl ⟨0, by decide +kernel, by decide, rfl⟩
theorem d_Life_init_50 : zd b_Life_init 50 (.putfield 38) 3 53 := ⟨by decide +kernel, rfl⟩
theorem d_Life_init_53 : zd_l .aload_n .aload b_Life_init 53 0 54 := Or.inl ⟨0, rfl, by decide +kernel, rfl⟩
theorem d_Life_init_54 : zd_k b_Life_init "SameTuesday$Life" 54 0 55 := Or.inl ⟨0, by decide +kernel, by decide, rfl⟩
theorem d_Life_init_55 : zd b_Life_init 55 (.putfield 41) 3 58 := ⟨by decide +kernel, rfl⟩
theorem d_Life_init_58 : zd_l .aload_n .aload b_Life_init 58 0 59 := Or.inl ⟨0, rfl, by decide +kernel, rfl⟩
theorem d_Life_init_59 : zd_k b_Life_init "SameTuesday$Life" 59 (-9) 61 := Or.inr (Or.inl ⟨(-9), by decide +kernel, by decide, rfl⟩)
theorem d_Life_init_61 : zd b_Life_init 61 (.putfield 44) 3 64 := ⟨by decide +kernel, rfl⟩
theorem d_Life_init_64 : zd_l .aload_n .aload b_Life_init 64 0 65 := Or.inl ⟨0, rfl, by decide +kernel, rfl⟩
theorem d_Life_init_65 : zd b_Life_init 65 .aconst_null 1 66 := ⟨by decide +kernel, rfl⟩
theorem d_Life_init_66 : zd b_Life_init 66 (.putfield 47) 3 69 := ⟨by decide +kernel, rfl⟩
theorem d_Life_init_69 : zd_l .aload_n .aload b_Life_init 69 0 70 := Or.inl ⟨0, rfl, by decide +kernel, rfl⟩
theorem d_Life_init_70 : zd_k b_Life_init "SameTuesday$Life" 70 0 71 := Or.inl ⟨0, by decide +kernel, by decide, rfl⟩
theorem d_Life_init_71 : zd b_Life_init 71 (.putfield 50) 3 74 := ⟨by decide +kernel, rfl⟩
theorem d_Life_init_74 : zd b_Life_init 74 .return_ 1 75 := ⟨by decide +kernel, rfl⟩
theorem d_Life_readPairs_0 : zd_l .aload_n .aload b_Life_readPairs 0 0 1 := Or.inl ⟨0, rfl, by decide +kernel, rfl⟩
theorem d_Life_readPairs_1 : zd_k b_Life_readPairs "SameTuesday$Life" 1 0 2 := Or.inl ⟨0, by decide +kernel, by decide, rfl⟩
theorem d_Life_readPairs_2 : zd b_Life_readPairs 2 (.putfield 22) 3 5 := ⟨by decide +kernel, rfl⟩
theorem d_Life_readPairs_5 : zd_k b_Life_readPairs "SameTuesday$Life" 5 0 6 := Or.inl ⟨0, by decide +kernel, by decide, rfl⟩
theorem d_Life_readPairs_6 : zd_l .istore_n .istore b_Life_readPairs 6 4 8 := Or.inr ⟨by decide +kernel, rfl⟩
theorem d_Life_readPairs_8 : zd_l .iload_n .iload b_Life_readPairs 8 4 10 := Or.inr ⟨by decide +kernel, rfl⟩
theorem d_Life_readPairs_10 : zd_l .iload_n .iload b_Life_readPairs 10 3 11 := Or.inl ⟨3, rfl, by decide +kernel, rfl⟩
theorem d_Life_readPairs_11 : zd_b b_Life_readPairs 11 (.if_icmp .ge) 14 104 := ⟨93, by decide +kernel, by decide, rfl⟩
theorem d_Life_readPairs_14 : zd_l .iload_n .iload b_Life_readPairs 14 4 16 := Or.inr ⟨by decide +kernel, rfl⟩
theorem d_Life_readPairs_16 : zd_k b_Life_readPairs "SameTuesday$Life" 16 20 18 := Or.inr (Or.inl ⟨20, by decide +kernel, by decide, rfl⟩)
theorem d_Life_readPairs_18 : zd_b b_Life_readPairs 18 (.if_icmp .ge) 21 104 := ⟨86, by decide +kernel, by decide, rfl⟩
theorem d_Life_readPairs_21 : zd_l .aload_n .aload b_Life_readPairs 21 1 22 := Or.inl ⟨1, rfl, by decide +kernel, rfl⟩
theorem d_Life_readPairs_22 : zd_l .iload_n .iload b_Life_readPairs 22 2 23 := Or.inl ⟨2, rfl, by decide +kernel, rfl⟩
theorem d_Life_readPairs_23 : zd_k b_Life_readPairs "SameTuesday$Life" 23 2 24 := Or.inl ⟨2, by decide +kernel, by decide, rfl⟩
theorem d_Life_readPairs_24 : zd_l .iload_n .iload b_Life_readPairs 24 4 26 := Or.inr ⟨by decide +kernel, rfl⟩
theorem d_Life_readPairs_26 : zd b_Life_readPairs 26 .imul 1 27 := ⟨by decide +kernel, rfl⟩
theorem d_Life_readPairs_27 : zd b_Life_readPairs 27 .iadd 1 28 := ⟨by decide +kernel, rfl⟩
theorem d_Life_readPairs_28 : zd b_Life_readPairs 28 (.invokevirtual 53) 3 31 := ⟨by decide +kernel, rfl⟩
theorem d_Life_readPairs_31 : zd_l .istore_n .istore b_Life_readPairs 31 5 33 := Or.inr ⟨by decide +kernel, rfl⟩
theorem d_Life_readPairs_33 : zd_l .aload_n .aload b_Life_readPairs 33 1 34 := Or.inl ⟨1, rfl, by decide +kernel, rfl⟩
theorem d_Life_readPairs_34 : zd_l .iload_n .iload b_Life_readPairs 34 2 35 := Or.inl ⟨2, rfl, by decide +kernel, rfl⟩
theorem d_Life_readPairs_35 : zd_k b_Life_readPairs "SameTuesday$Life" 35 2 36 := Or.inl ⟨2, by decide +kernel, by decide, rfl⟩
theorem d_Life_readPairs_36 : zd_l .iload_n .iload b_Life_readPairs 36 4 38 := Or.inr ⟨by decide +kernel, rfl⟩
theorem d_Life_readPairs_38 : zd b_Life_readPairs 38 .imul 1 39 := ⟨by decide +kernel, rfl⟩
theorem d_Life_readPairs_39 : zd b_Life_readPairs 39 .iadd 1 40 := ⟨by decide +kernel, rfl⟩
theorem d_Life_readPairs_40 : zd_k b_Life_readPairs "SameTuesday$Life" 40 1 41 := Or.inl ⟨1, by decide +kernel, by decide, rfl⟩
theorem d_Life_readPairs_41 : zd b_Life_readPairs 41 .iadd 1 42 := ⟨by decide +kernel, rfl⟩
theorem d_Life_readPairs_42 : zd b_Life_readPairs 42 (.invokevirtual 53) 3 45 := ⟨by decide +kernel, rfl⟩
theorem d_Life_readPairs_45 : zd_l .istore_n .istore b_Life_readPairs 45 6 47 := Or.inr ⟨by decide +kernel, rfl⟩
theorem d_Life_readPairs_47 : zd_l .iload_n .iload b_Life_readPairs 47 5 49 := Or.inr ⟨by decide +kernel, rfl⟩
theorem d_Life_readPairs_49 : zd b_Life_readPairs 49 (.invokestatic 59) 3 52 := ⟨by decide +kernel, rfl⟩
theorem d_Life_readPairs_52 : zd_b b_Life_readPairs 52 (.ifCond .ne) 55 58 := ⟨6, by decide +kernel, by decide, rfl⟩
theorem d_Life_readPairs_55 : zd_k b_Life_readPairs "SameTuesday$Life" 55 (-2) 57 := Or.inr (Or.inl ⟨(-2), by decide +kernel, by decide, rfl⟩)
theorem d_Life_readPairs_57 : zd b_Life_readPairs 57 .ireturn 1 58 := ⟨by decide +kernel, rfl⟩
theorem d_Life_readPairs_58 : zd_l .aload_n .aload b_Life_readPairs 58 0 59 := Or.inl ⟨0, rfl, by decide +kernel, rfl⟩
theorem d_Life_readPairs_59 : zd b_Life_readPairs 59 (.getfield 9) 3 62 := ⟨by decide +kernel, rfl⟩
theorem d_Life_readPairs_62 : zd_l .iload_n .iload b_Life_readPairs 62 6 64 := Or.inr ⟨by decide +kernel, rfl⟩
theorem d_Life_readPairs_64 : zd b_Life_readPairs 64 (.invokevirtual 63) 3 67 := ⟨by decide +kernel, rfl⟩
theorem d_Life_readPairs_67 : zd_b b_Life_readPairs 67 .ifnonnull 70 72 := ⟨5, by decide +kernel, by decide, rfl⟩
theorem d_Life_readPairs_70 : zd_k b_Life_readPairs "SameTuesday$Life" 70 (-1) 71 := Or.inl ⟨(-1), by decide +kernel, by decide, rfl⟩
theorem d_Life_readPairs_71 : zd b_Life_readPairs 71 .ireturn 1 72 := ⟨by decide +kernel, rfl⟩
theorem d_Life_readPairs_72 : zd_l .aload_n .aload b_Life_readPairs 72 0 73 := Or.inl ⟨0, rfl, by decide +kernel, rfl⟩
theorem d_Life_readPairs_73 : zd b_Life_readPairs 73 (.getfield 15) 3 76 := ⟨by decide +kernel, rfl⟩
theorem d_Life_readPairs_76 : zd_l .iload_n .iload b_Life_readPairs 76 4 78 := Or.inr ⟨by decide +kernel, rfl⟩
theorem d_Life_readPairs_78 : zd_l .iload_n .iload b_Life_readPairs 78 5 80 := Or.inr ⟨by decide +kernel, rfl⟩
theorem d_Life_readPairs_80 : zd b_Life_readPairs 80 .iastore 1 81 := ⟨by decide +kernel, rfl⟩
theorem d_Life_readPairs_81 : zd_l .aload_n .aload b_Life_readPairs 81 0 82 := Or.inl ⟨0, rfl, by decide +kernel, rfl⟩
theorem d_Life_readPairs_82 : zd b_Life_readPairs 82 (.getfield 19) 3 85 := ⟨by decide +kernel, rfl⟩
theorem d_Life_readPairs_85 : zd_l .iload_n .iload b_Life_readPairs 85 4 87 := Or.inr ⟨by decide +kernel, rfl⟩
theorem d_Life_readPairs_87 : zd_l .iload_n .iload b_Life_readPairs 87 6 89 := Or.inr ⟨by decide +kernel, rfl⟩
theorem d_Life_readPairs_89 : zd b_Life_readPairs 89 .iastore 1 90 := ⟨by decide +kernel, rfl⟩
theorem d_Life_readPairs_90 : zd_l .aload_n .aload b_Life_readPairs 90 0 91 := Or.inl ⟨0, rfl, by decide +kernel, rfl⟩
theorem d_Life_readPairs_91 : zd_l .iload_n .iload b_Life_readPairs 91 4 93 := Or.inr ⟨by decide +kernel, rfl⟩
theorem d_Life_readPairs_93 : zd_k b_Life_readPairs "SameTuesday$Life" 93 1 94 := Or.inl ⟨1, by decide +kernel, by decide, rfl⟩
theorem d_Life_readPairs_94 : zd b_Life_readPairs 94 .iadd 1 95 := ⟨by decide +kernel, rfl⟩
theorem d_Life_readPairs_95 : zd b_Life_readPairs 95 (.putfield 22) 3 98 := ⟨by decide +kernel, rfl⟩
theorem d_Life_readPairs_98 : zd_i b_Life_readPairs 98 4 1 1 101 := ⟨by decide +kernel, by decide, rfl⟩
theorem d_Life_readPairs_101 : zd_b b_Life_readPairs 101 .goto 104 8 := ⟨(-93), by decide +kernel, by decide, rfl⟩
theorem d_Life_readPairs_104 : zd_k b_Life_readPairs "SameTuesday$Life" 104 0 105 := Or.inl ⟨0, by decide +kernel, by decide, rfl⟩
theorem d_Life_readPairs_105 : zd b_Life_readPairs 105 .ireturn 1 106 := ⟨by decide +kernel, rfl⟩
theorem d_Life_firstWrong_0 : zd_l .aload_n .aload b_Life_firstWrong 0 0 1 := Or.inl ⟨0, rfl, by decide +kernel, rfl⟩
theorem d_Life_firstWrong_1 : zd b_Life_firstWrong 1 (.getfield 44) 3 4 := ⟨by decide +kernel, rfl⟩
theorem d_Life_firstWrong_4 : zd b_Life_firstWrong 4 .ireturn 1 5 := ⟨by decide +kernel, rfl⟩
theorem d_Life_factsAt_0 : zd_l .aload_n .aload b_Life_factsAt 0 0 1 := Or.inl ⟨0, rfl, by decide +kernel, rfl⟩
theorem d_Life_factsAt_1 : zd_kl b_Life_factsAt "SameTuesday$Life" 1 1 2 := Or.inl ⟨1, by decide +kernel, by decide, rfl⟩
theorem d_Life_factsAt_2 : zd b_Life_factsAt 2 (.putfield 30) 3 5 := ⟨by decide +kernel, rfl⟩
theorem d_Life_factsAt_5 : zd_l .aload_n .aload b_Life_factsAt 5 0 6 := Or.inl ⟨0, rfl, by decide +kernel, rfl⟩
theorem d_Life_factsAt_6 : zd b_Life_factsAt 6 .aconst_null 1 7 := ⟨by decide +kernel, rfl⟩
theorem d_Life_factsAt_7 : zd b_Life_factsAt 7 (.putfield 34) 3 10 := ⟨by decide +kernel, rfl⟩
theorem d_Life_factsAt_10 : zd_l .aload_n .aload b_Life_factsAt 10 0 11 := Or.inl ⟨0, rfl, by decide +kernel, rfl⟩
theorem d_Life_factsAt_11 : zd_k b_Life_factsAt "SameTuesday$Life" 11 0 12 := Or.inl ⟨0, by decide +kernel, by decide, rfl⟩
theorem d_Life_factsAt_12 : zd b_Life_factsAt 12 (.putfield 41) 3 15 := ⟨by decide +kernel, rfl⟩
theorem d_Life_factsAt_15 : zd_l .aload_n .aload b_Life_factsAt 15 0 16 := Or.inl ⟨0, rfl, by decide +kernel, rfl⟩
theorem d_Life_factsAt_16 : zd_k b_Life_factsAt "SameTuesday$Life" 16 (-9) 18 := Or.inr (Or.inl ⟨(-9), by decide +kernel, by decide, rfl⟩)
theorem d_Life_factsAt_18 : zd b_Life_factsAt 18 (.putfield 44) 3 21 := ⟨by decide +kernel, rfl⟩
theorem d_Life_factsAt_21 : zd_l .aload_n .aload b_Life_factsAt 21 0 22 := Or.inl ⟨0, rfl, by decide +kernel, rfl⟩
theorem d_Life_factsAt_22 : zd b_Life_factsAt 22 (.getfield 9) 3 25 := ⟨by decide +kernel, rfl⟩
theorem d_Life_factsAt_25 : zd_l .iload_n .iload b_Life_factsAt 25 1 26 := Or.inl ⟨1, rfl, by decide +kernel, rfl⟩
theorem d_Life_factsAt_26 : zd b_Life_factsAt 26 (.invokevirtual 69) 3 29 := ⟨by decide +kernel, rfl⟩
theorem d_Life_factsAt_29 : zd_k b_Life_factsAt "SameTuesday$Life" 29 59 31 := Or.inr (Or.inl ⟨59, by decide +kernel, by decide, rfl⟩)
theorem d_Life_factsAt_31 : zd b_Life_factsAt 31 (.invokestatic 72) 3 34 := ⟨by decide +kernel, rfl⟩
theorem d_Life_factsAt_34 : zd_l .istore_n .istore b_Life_factsAt 34 3 35 := Or.inl ⟨3, rfl, by decide +kernel, rfl⟩
theorem d_Life_factsAt_35 : zd_k b_Life_factsAt "SameTuesday$Life" 35 0 36 := Or.inl ⟨0, by decide +kernel, by decide, rfl⟩
theorem d_Life_factsAt_36 : zd_l .istore_n .istore b_Life_factsAt 36 4 38 := Or.inr ⟨by decide +kernel, rfl⟩
theorem d_Life_factsAt_38 : zd_l .iload_n .iload b_Life_factsAt 38 4 40 := Or.inr ⟨by decide +kernel, rfl⟩
theorem d_Life_factsAt_40 : zd_l .iload_n .iload b_Life_factsAt 40 3 41 := Or.inl ⟨3, rfl, by decide +kernel, rfl⟩
theorem d_Life_factsAt_41 : zd_b b_Life_factsAt 41 (.if_icmp .gt) 44 98 := ⟨57, by decide +kernel, by decide, rfl⟩
theorem d_Life_factsAt_44 : zd_l .aload_n .aload b_Life_factsAt 44 0 45 := Or.inl ⟨0, rfl, by decide +kernel, rfl⟩
theorem d_Life_factsAt_45 : zd_l .aload_n .aload b_Life_factsAt 45 0 46 := Or.inl ⟨0, rfl, by decide +kernel, rfl⟩
theorem d_Life_factsAt_46 : zd b_Life_factsAt 46 (.getfield 9) 3 49 := ⟨by decide +kernel, rfl⟩
theorem d_Life_factsAt_49 : zd_l .iload_n .iload b_Life_factsAt 49 4 51 := Or.inr ⟨by decide +kernel, rfl⟩
theorem d_Life_factsAt_51 : zd_l .aload_n .aload b_Life_factsAt 51 0 52 := Or.inl ⟨0, rfl, by decide +kernel, rfl⟩
theorem d_Life_factsAt_52 : zd b_Life_factsAt 52 (.getfield 30) 3 55 := ⟨by decide +kernel, rfl⟩
theorem d_Life_factsAt_55 : zd_l .iload_n .iload b_Life_factsAt 55 2 56 := Or.inl ⟨2, rfl, by decide +kernel, rfl⟩
theorem d_Life_factsAt_56 : zd b_Life_factsAt 56 (.invokevirtual 78) 3 59 := ⟨by decide +kernel, rfl⟩
theorem d_Life_factsAt_59 : zd b_Life_factsAt 59 (.putfield 30) 3 62 := ⟨by decide +kernel, rfl⟩
theorem d_Life_factsAt_62 : zd_l .aload_n .aload b_Life_factsAt 62 0 63 := Or.inl ⟨0, rfl, by decide +kernel, rfl⟩
theorem d_Life_factsAt_63 : zd_l .iload_n .iload b_Life_factsAt 63 4 65 := Or.inr ⟨by decide +kernel, rfl⟩
theorem d_Life_factsAt_65 : zd b_Life_factsAt 65 (.invokevirtual 82) 3 68 := ⟨by decide +kernel, rfl⟩
theorem d_Life_factsAt_68 : zd_l .aload_n .aload b_Life_factsAt 68 0 69 := Or.inl ⟨0, rfl, by decide +kernel, rfl⟩
theorem d_Life_factsAt_69 : zd_l .iload_n .iload b_Life_factsAt 69 4 71 := Or.inr ⟨by decide +kernel, rfl⟩
theorem d_Life_factsAt_71 : zd b_Life_factsAt 71 (.invokevirtual 86) 3 74 := ⟨by decide +kernel, rfl⟩
theorem d_Life_factsAt_74 : zd_l .aload_n .aload b_Life_factsAt 74 0 75 := Or.inl ⟨0, rfl, by decide +kernel, rfl⟩
theorem d_Life_factsAt_75 : zd b_Life_factsAt 75 (.getfield 47) 3 78 := ⟨by decide +kernel, rfl⟩
theorem d_Life_factsAt_78 : zd_b b_Life_factsAt 78 .ifnonnull 81 92 := ⟨14, by decide +kernel, by decide, rfl⟩
theorem d_Life_factsAt_81 : zd_l .aload_n .aload b_Life_factsAt 81 0 82 := Or.inl ⟨0, rfl, by decide +kernel, rfl⟩
theorem d_Life_factsAt_82 : zd b_Life_factsAt 82 (.getfield 26) 3 85 := ⟨by decide +kernel, rfl⟩
theorem d_Life_factsAt_85 : zd_l .iload_n .iload b_Life_factsAt 85 4 87 := Or.inr ⟨by decide +kernel, rfl⟩
theorem d_Life_factsAt_87 : zd_l .aload_n .aload b_Life_factsAt 87 0 88 := Or.inl ⟨0, rfl, by decide +kernel, rfl⟩
theorem d_Life_factsAt_88 : zd b_Life_factsAt 88 (.getfield 30) 3 91 := ⟨by decide +kernel, rfl⟩
theorem d_Life_factsAt_91 : zd b_Life_factsAt 91 .lastore 1 92 := ⟨by decide +kernel, rfl⟩
theorem d_Life_factsAt_92 : zd_i b_Life_factsAt 92 4 1 1 95 := ⟨by decide +kernel, by decide, rfl⟩
theorem d_Life_factsAt_95 : zd_b b_Life_factsAt 95 .goto 98 38 := ⟨(-57), by decide +kernel, by decide, rfl⟩
theorem d_Life_factsAt_98 : zd_l .aload_n .aload b_Life_factsAt 98 0 99 := Or.inl ⟨0, rfl, by decide +kernel, rfl⟩
theorem d_Life_factsAt_99 : zd b_Life_factsAt 99 (.getfield 41) 3 102 := ⟨by decide +kernel, rfl⟩
theorem d_Life_factsAt_102 : zd_l .aload_n .aload b_Life_factsAt 102 0 103 := Or.inl ⟨0, rfl, by decide +kernel, rfl⟩
theorem d_Life_factsAt_103 : zd b_Life_factsAt 103 (.getfield 22) 3 106 := ⟨by decide +kernel, rfl⟩
theorem d_Life_factsAt_106 : zd_b b_Life_factsAt 106 (.if_icmp .ge) 109 117 := ⟨11, by decide +kernel, by decide, rfl⟩
theorem d_Life_factsAt_109 : zd_l .aload_n .aload b_Life_factsAt 109 0 110 := Or.inl ⟨0, rfl, by decide +kernel, rfl⟩
theorem d_Life_factsAt_110 : zd_l .aload_n .aload b_Life_factsAt 110 0 111 := Or.inl ⟨0, rfl, by decide +kernel, rfl⟩
theorem d_Life_factsAt_111 : zd b_Life_factsAt 111 (.getfield 41) 3 114 := ⟨by decide +kernel, rfl⟩
theorem d_Life_factsAt_114 : zd b_Life_factsAt 114 (.invokevirtual 89) 3 117 := ⟨by decide +kernel, rfl⟩
theorem d_Life_factsAt_117 : zd_l .aload_n .aload b_Life_factsAt 117 0 118 := Or.inl ⟨0, rfl, by decide +kernel, rfl⟩
theorem d_Life_factsAt_118 : zd b_Life_factsAt 118 (.getfield 30) 3 121 := ⟨by decide +kernel, rfl⟩
theorem d_Life_factsAt_121 : zd b_Life_factsAt 121 (.invokestatic 92) 3 124 := ⟨by decide +kernel, rfl⟩
theorem d_Life_factsAt_124 : zd b_Life_factsAt 124 .ireturn 1 125 := ⟨by decide +kernel, rfl⟩
theorem d_Life_endDeeds_0 : zd_l .aload_n .aload b_Life_endDeeds 0 0 1 := Or.inl ⟨0, rfl, by decide +kernel, rfl⟩
theorem d_Life_endDeeds_1 : zd b_Life_endDeeds 1 (.getfield 34) 3 4 := ⟨by decide +kernel, rfl⟩
theorem d_Life_endDeeds_4 : zd_b b_Life_endDeeds 4 .ifnull 7 35 := ⟨31, by decide +kernel, by decide, rfl⟩
theorem d_Life_endDeeds_7 : zd_l .aload_n .aload b_Life_endDeeds 7 0 8 := Or.inl ⟨0, rfl, by decide +kernel, rfl⟩
theorem d_Life_endDeeds_8 : zd b_Life_endDeeds 8 (.getfield 38) 3 11 := ⟨by decide +kernel, rfl⟩
theorem d_Life_endDeeds_11 : zd_l .iload_n .iload b_Life_endDeeds 11 1 12 := Or.inl ⟨1, rfl, by decide +kernel, rfl⟩
theorem d_Life_endDeeds_12 : zd_b b_Life_endDeeds 12 (.if_icmp .ne) 15 35 := ⟨23, by decide +kernel, by decide, rfl⟩
theorem d_Life_endDeeds_15 : zd_l .aload_n .aload b_Life_endDeeds 15 0 16 := Or.inl ⟨0, rfl, by decide +kernel, rfl⟩
theorem d_Life_endDeeds_16 : zd_l .aload_n .aload b_Life_endDeeds 16 0 17 := Or.inl ⟨0, rfl, by decide +kernel, rfl⟩
theorem d_Life_endDeeds_17 : zd b_Life_endDeeds 17 (.getfield 34) 3 20 := ⟨by decide +kernel, rfl⟩
theorem d_Life_endDeeds_20 : zd_l .aload_n .aload b_Life_endDeeds 20 0 21 := Or.inl ⟨0, rfl, by decide +kernel, rfl⟩
theorem d_Life_endDeeds_21 : zd b_Life_endDeeds 21 (.getfield 30) 3 24 := ⟨by decide +kernel, rfl⟩
theorem d_Life_endDeeds_24 : zd b_Life_endDeeds 24 (.invokevirtual 98) 3 27 := ⟨by decide +kernel, rfl⟩
theorem d_Life_endDeeds_27 : zd b_Life_endDeeds 27 (.putfield 30) 3 30 := ⟨by decide +kernel, rfl⟩
theorem d_Life_endDeeds_30 : zd_l .aload_n .aload b_Life_endDeeds 30 0 31 := Or.inl ⟨0, rfl, by decide +kernel, rfl⟩
theorem d_Life_endDeeds_31 : zd b_Life_endDeeds 31 .aconst_null 1 32 := ⟨by decide +kernel, rfl⟩
theorem d_Life_endDeeds_32 : zd b_Life_endDeeds 32 (.putfield 34) 3 35 := ⟨by decide +kernel, rfl⟩
theorem d_Life_endDeeds_35 : zd_l .aload_n .aload b_Life_endDeeds 35 0 36 := Or.inl ⟨0, rfl, by decide +kernel, rfl⟩
theorem d_Life_endDeeds_36 : zd b_Life_endDeeds 36 (.getfield 47) 3 39 := ⟨by decide +kernel, rfl⟩
theorem d_Life_endDeeds_39 : zd_b b_Life_endDeeds 39 .ifnull 42 65 := ⟨26, by decide +kernel, by decide, rfl⟩
theorem d_Life_endDeeds_42 : zd_l .aload_n .aload b_Life_endDeeds 42 0 43 := Or.inl ⟨0, rfl, by decide +kernel, rfl⟩
theorem d_Life_endDeeds_43 : zd b_Life_endDeeds 43 (.getfield 50) 3 46 := ⟨by decide +kernel, rfl⟩
theorem d_Life_endDeeds_46 : zd_l .iload_n .iload b_Life_endDeeds 46 1 47 := Or.inl ⟨1, rfl, by decide +kernel, rfl⟩
theorem d_Life_endDeeds_47 : zd_b b_Life_endDeeds 47 (.if_icmp .ne) 50 65 := ⟨18, by decide +kernel, by decide, rfl⟩
theorem d_Life_endDeeds_50 : zd_l .aload_n .aload b_Life_endDeeds 50 0 51 := Or.inl ⟨0, rfl, by decide +kernel, rfl⟩
theorem d_Life_endDeeds_51 : zd_l .aload_n .aload b_Life_endDeeds 51 0 52 := Or.inl ⟨0, rfl, by decide +kernel, rfl⟩
theorem d_Life_endDeeds_52 : zd b_Life_endDeeds 52 (.getfield 47) 3 55 := ⟨by decide +kernel, rfl⟩
theorem d_Life_endDeeds_55 : zd_l .aload_n .aload b_Life_endDeeds 55 0 56 := Or.inl ⟨0, rfl, by decide +kernel, rfl⟩
theorem d_Life_endDeeds_56 : zd b_Life_endDeeds 56 (.getfield 30) 3 59 := ⟨by decide +kernel, rfl⟩
theorem d_Life_endDeeds_59 : zd b_Life_endDeeds 59 (.invokevirtual 98) 3 62 := ⟨by decide +kernel, rfl⟩
theorem d_Life_endDeeds_62 : zd b_Life_endDeeds 62 (.putfield 30) 3 65 := ⟨by decide +kernel, rfl⟩
theorem d_Life_endDeeds_65 : zd b_Life_endDeeds 65 .return_ 1 66 := ⟨by decide +kernel, rfl⟩
theorem d_Life_beginPairs_0 : zd_k b_Life_beginPairs "SameTuesday$Life" 0 0 1 := Or.inl ⟨0, by decide +kernel, by decide, rfl⟩
theorem d_Life_beginPairs_1 : zd_l .istore_n .istore b_Life_beginPairs 1 2 2 := Or.inl ⟨2, rfl, by decide +kernel, rfl⟩
theorem d_Life_beginPairs_2 : zd_l .aload_n .aload b_Life_beginPairs 2 0 3 := Or.inl ⟨0, rfl, by decide +kernel, rfl⟩
theorem d_Life_beginPairs_3 : zd b_Life_beginPairs 3 (.getfield 41) 3 6 := ⟨by decide +kernel, rfl⟩
theorem d_Life_beginPairs_6 : zd_l .aload_n .aload b_Life_beginPairs 6 0 7 := Or.inl ⟨0, rfl, by decide +kernel, rfl⟩
theorem d_Life_beginPairs_7 : zd b_Life_beginPairs 7 (.getfield 22) 3 10 := ⟨by decide +kernel, rfl⟩
theorem d_Life_beginPairs_10 : zd_b b_Life_beginPairs 10 (.if_icmp .ge) 13 68 := ⟨58, by decide +kernel, by decide, rfl⟩
theorem d_Life_beginPairs_13 : zd_l .aload_n .aload b_Life_beginPairs 13 0 14 := Or.inl ⟨0, rfl, by decide +kernel, rfl⟩
theorem d_Life_beginPairs_14 : zd_l .aload_n .aload b_Life_beginPairs 14 0 15 := Or.inl ⟨0, rfl, by decide +kernel, rfl⟩
theorem d_Life_beginPairs_15 : zd b_Life_beginPairs 15 (.getfield 41) 3 18 := ⟨by decide +kernel, rfl⟩
theorem d_Life_beginPairs_18 : zd b_Life_beginPairs 18 (.invokevirtual 104) 3 21 := ⟨by decide +kernel, rfl⟩
theorem d_Life_beginPairs_21 : zd_l .iload_n .iload b_Life_beginPairs 21 1 22 := Or.inl ⟨1, rfl, by decide +kernel, rfl⟩
theorem d_Life_beginPairs_22 : zd_b b_Life_beginPairs 22 (.if_icmp .gt) 25 68 := ⟨46, by decide +kernel, by decide, rfl⟩
theorem d_Life_beginPairs_25 : zd_l .iload_n .iload b_Life_beginPairs 25 2 26 := Or.inl ⟨2, rfl, by decide +kernel, rfl⟩
theorem d_Life_beginPairs_26 : zd_b b_Life_beginPairs 26 (.ifCond .ne) 29 45 := ⟨19, by decide +kernel, by decide, rfl⟩
theorem d_Life_beginPairs_29 : zd_l .aload_n .aload b_Life_beginPairs 29 0 30 := Or.inl ⟨0, rfl, by decide +kernel, rfl⟩
theorem d_Life_beginPairs_30 : zd_l .aload_n .aload b_Life_beginPairs 30 0 31 := Or.inl ⟨0, rfl, by decide +kernel, rfl⟩
theorem d_Life_beginPairs_31 : zd_l .aload_n .aload b_Life_beginPairs 31 0 32 := Or.inl ⟨0, rfl, by decide +kernel, rfl⟩
theorem d_Life_beginPairs_32 : zd b_Life_beginPairs 32 (.getfield 41) 3 35 := ⟨by decide +kernel, rfl⟩
theorem d_Life_beginPairs_35 : zd b_Life_beginPairs 35 (.invokevirtual 107) 3 38 := ⟨by decide +kernel, rfl⟩
theorem d_Life_beginPairs_38 : zd_l .iload_n .iload b_Life_beginPairs 38 1 39 := Or.inl ⟨1, rfl, by decide +kernel, rfl⟩
theorem d_Life_beginPairs_39 : zd b_Life_beginPairs 39 (.invokevirtual 110) 3 42 := ⟨by decide +kernel, rfl⟩
theorem d_Life_beginPairs_42 : zd_b b_Life_beginPairs 42 (.ifCond .ne) 45 53 := ⟨11, by decide +kernel, by decide, rfl⟩
theorem d_Life_beginPairs_45 : zd_l .aload_n .aload b_Life_beginPairs 45 0 46 := Or.inl ⟨0, rfl, by decide +kernel, rfl⟩
theorem d_Life_beginPairs_46 : zd_l .aload_n .aload b_Life_beginPairs 46 0 47 := Or.inl ⟨0, rfl, by decide +kernel, rfl⟩
theorem d_Life_beginPairs_47 : zd b_Life_beginPairs 47 (.getfield 41) 3 50 := ⟨by decide +kernel, rfl⟩
theorem d_Life_beginPairs_50 : zd b_Life_beginPairs 50 (.invokevirtual 89) 3 53 := ⟨by decide +kernel, rfl⟩
theorem d_Life_beginPairs_53 : zd_k b_Life_beginPairs "SameTuesday$Life" 53 1 54 := Or.inl ⟨1, by decide +kernel, by decide, rfl⟩
theorem d_Life_beginPairs_54 : zd_l .istore_n .istore b_Life_beginPairs 54 2 55 := Or.inl ⟨2, rfl, by decide +kernel, rfl⟩
theorem d_Life_beginPairs_55 : zd_l .aload_n .aload b_Life_beginPairs 55 0 56 := Or.inl ⟨0, rfl, by decide +kernel, rfl⟩
theorem d_Life_beginPairs_56 : zd b_Life_beginPairs 56 .dup 1 57 := ⟨by decide +kernel, rfl⟩
theorem d_Life_beginPairs_57 : zd b_Life_beginPairs 57 (.getfield 41) 3 60 := ⟨by decide +kernel, rfl⟩
theorem d_Life_beginPairs_60 : zd_k b_Life_beginPairs "SameTuesday$Life" 60 1 61 := Or.inl ⟨1, by decide +kernel, by decide, rfl⟩
theorem d_Life_beginPairs_61 : zd b_Life_beginPairs 61 .iadd 1 62 := ⟨by decide +kernel, rfl⟩
theorem d_Life_beginPairs_62 : zd b_Life_beginPairs 62 (.putfield 41) 3 65 := ⟨by decide +kernel, rfl⟩
theorem d_Life_beginPairs_65 : zd_b b_Life_beginPairs 65 .goto 68 2 := ⟨(-63), by decide +kernel, by decide, rfl⟩
theorem d_Life_beginPairs_68 : zd b_Life_beginPairs 68 .return_ 1 69 := ⟨by decide +kernel, rfl⟩
theorem d_Life_begin_0 : zd_l .aload_n .aload b_Life_begin 0 1 1 := Or.inl ⟨1, rfl, by decide +kernel, rfl⟩
theorem d_Life_begin_1 : zd_b b_Life_begin 1 .ifnull 4 29 := ⟨28, by decide +kernel, by decide, rfl⟩
theorem d_Life_begin_4 : zd_l .aload_n .aload b_Life_begin 4 0 5 := Or.inl ⟨0, rfl, by decide +kernel, rfl⟩
theorem d_Life_begin_5 : zd b_Life_begin 5 (.getfield 34) 3 8 := ⟨by decide +kernel, rfl⟩
theorem d_Life_begin_8 : zd_b b_Life_begin 8 .ifnonnull 11 29 := ⟨21, by decide +kernel, by decide, rfl⟩
theorem d_Life_begin_11 : zd_l .aload_n .aload b_Life_begin 11 0 12 := Or.inl ⟨0, rfl, by decide +kernel, rfl⟩
theorem d_Life_begin_12 : zd b_Life_begin 12 (.getfield 9) 3 15 := ⟨by decide +kernel, rfl⟩
theorem d_Life_begin_15 : zd_l .aload_n .aload b_Life_begin 15 1 16 := Or.inl ⟨1, rfl, by decide +kernel, rfl⟩
theorem d_Life_begin_16 : zd_l .iload_n .iload b_Life_begin 16 2 17 := Or.inl ⟨2, rfl, by decide +kernel, rfl⟩
theorem d_Life_begin_17 : zd_l .aload_n .aload b_Life_begin 17 0 18 := Or.inl ⟨0, rfl, by decide +kernel, rfl⟩
theorem d_Life_begin_18 : zd b_Life_begin 18 (.getfield 30) 3 21 := ⟨by decide +kernel, rfl⟩
theorem d_Life_begin_21 : zd b_Life_begin 21 (.invokevirtual 114) 3 24 := ⟨by decide +kernel, rfl⟩
theorem d_Life_begin_24 : zd_kl b_Life_begin "SameTuesday$Life" 24 0 25 := Or.inl ⟨0, by decide +kernel, by decide, rfl⟩
theorem d_Life_begin_25 : zd b_Life_begin 25 .lcmp 1 26 := ⟨by decide +kernel, rfl⟩
theorem d_Life_begin_26 : zd_b b_Life_begin 26 (.ifCond .ne) 29 31 := ⟨5, by decide +kernel, by decide, rfl⟩
theorem d_Life_begin_29 : zd_k b_Life_begin "SameTuesday$Life" 29 0 30 := Or.inl ⟨0, by decide +kernel, by decide, rfl⟩
theorem d_Life_begin_30 : zd b_Life_begin 30 .ireturn 1 31 := ⟨by decide +kernel, rfl⟩
theorem d_Life_begin_31 : zd_l .aload_n .aload b_Life_begin 31 0 32 := Or.inl ⟨0, rfl, by decide +kernel, rfl⟩
theorem d_Life_begin_32 : zd_l .aload_n .aload b_Life_begin 32 1 33 := Or.inl ⟨1, rfl, by decide +kernel, rfl⟩
theorem d_Life_begin_33 : zd b_Life_begin 33 (.putfield 34) 3 36 := ⟨by decide +kernel, rfl⟩
theorem d_Life_begin_36 : zd_l .aload_n .aload b_Life_begin 36 0 37 := Or.inl ⟨0, rfl, by decide +kernel, rfl⟩
theorem d_Life_begin_37 : zd_l .iload_n .iload b_Life_begin 37 2 38 := Or.inl ⟨2, rfl, by decide +kernel, rfl⟩
theorem d_Life_begin_38 : zd_l .aload_n .aload b_Life_begin 38 1 39 := Or.inl ⟨1, rfl, by decide +kernel, rfl⟩
theorem d_Life_begin_39 : zd b_Life_begin 39 (.getfield 118) 3 42 := ⟨by decide +kernel, rfl⟩
theorem d_Life_begin_42 : zd b_Life_begin 42 .iadd 1 43 := ⟨by decide +kernel, rfl⟩
theorem d_Life_begin_43 : zd b_Life_begin 43 (.putfield 38) 3 46 := ⟨by decide +kernel, rfl⟩
theorem d_Life_begin_46 : zd_k b_Life_begin "SameTuesday$Life" 46 1 47 := Or.inl ⟨1, by decide +kernel, by decide, rfl⟩
theorem d_Life_begin_47 : zd b_Life_begin 47 .ireturn 1 48 := ⟨by decide +kernel, rfl⟩
theorem d_Life_noteWrong_0 : zd_l .aload_n .aload b_Life_noteWrong 0 0 1 := Or.inl ⟨0, rfl, by decide +kernel, rfl⟩
theorem d_Life_noteWrong_1 : zd b_Life_noteWrong 1 (.getfield 44) 3 4 := ⟨by decide +kernel, rfl⟩
theorem d_Life_noteWrong_4 : zd_k b_Life_noteWrong "SameTuesday$Life" 4 (-9) 6 := Or.inr (Or.inl ⟨(-9), by decide +kernel, by decide, rfl⟩)
theorem d_Life_noteWrong_6 : zd_b b_Life_noteWrong 6 (.if_icmp .ne) 9 14 := ⟨8, by decide +kernel, by decide, rfl⟩
theorem d_Life_noteWrong_9 : zd_l .aload_n .aload b_Life_noteWrong 9 0 10 := Or.inl ⟨0, rfl, by decide +kernel, rfl⟩
theorem d_Life_noteWrong_10 : zd_l .iload_n .iload b_Life_noteWrong 10 1 11 := Or.inl ⟨1, rfl, by decide +kernel, rfl⟩
theorem d_Life_noteWrong_11 : zd b_Life_noteWrong 11 (.putfield 44) 3 14 := ⟨by decide +kernel, rfl⟩
theorem d_Life_noteWrong_14 : zd b_Life_noteWrong 14 .return_ 1 15 := ⟨by decide +kernel, rfl⟩
theorem d_Life_minuteOfPair_0 : zd_l .iload_n .iload b_Life_minuteOfPair 0 1 1 := Or.inl ⟨1, rfl, by decide +kernel, rfl⟩
theorem d_Life_minuteOfPair_1 : zd_b b_Life_minuteOfPair 1 (.ifCond .lt) 4 22 := ⟨21, by decide +kernel, by decide, rfl⟩
theorem d_Life_minuteOfPair_4 : zd_l .iload_n .iload b_Life_minuteOfPair 4 1 5 := Or.inl ⟨1, rfl, by decide +kernel, rfl⟩
theorem d_Life_minuteOfPair_5 : zd_l .aload_n .aload b_Life_minuteOfPair 5 0 6 := Or.inl ⟨0, rfl, by decide +kernel, rfl⟩
theorem d_Life_minuteOfPair_6 : zd b_Life_minuteOfPair 6 (.getfield 15) 3 9 := ⟨by decide +kernel, rfl⟩
theorem d_Life_minuteOfPair_9 : zd b_Life_minuteOfPair 9 .arraylength 1 10 := ⟨by decide +kernel, rfl⟩
theorem d_Life_minuteOfPair_10 : zd_b b_Life_minuteOfPair 10 (.if_icmp .ge) 13 22 := ⟨12, by decide +kernel, by decide, rfl⟩
theorem d_Life_minuteOfPair_13 : zd_l .aload_n .aload b_Life_minuteOfPair 13 0 14 := Or.inl ⟨0, rfl, by decide +kernel, rfl⟩
theorem d_Life_minuteOfPair_14 : zd b_Life_minuteOfPair 14 (.getfield 15) 3 17 := ⟨by decide +kernel, rfl⟩
theorem d_Life_minuteOfPair_17 : zd_l .iload_n .iload b_Life_minuteOfPair 17 1 18 := Or.inl ⟨1, rfl, by decide +kernel, rfl⟩
theorem d_Life_minuteOfPair_18 : zd b_Life_minuteOfPair 18 .iaload 1 19 := ⟨by decide +kernel, rfl⟩
theorem d_Life_minuteOfPair_19 : zd_b b_Life_minuteOfPair 19 .goto 22 23 := ⟨4, by decide +kernel, by decide, rfl⟩
theorem d_Life_minuteOfPair_22 : zd_k b_Life_minuteOfPair "SameTuesday$Life" 22 0 23 := Or.inl ⟨0, by decide +kernel, by decide, rfl⟩
theorem d_Life_minuteOfPair_23 : zd b_Life_minuteOfPair 23 .ireturn 1 24 := ⟨by decide +kernel, rfl⟩
theorem d_Life_deedOfPair_0 : zd_l .iload_n .iload b_Life_deedOfPair 0 1 1 := Or.inl ⟨1, rfl, by decide +kernel, rfl⟩
theorem d_Life_deedOfPair_1 : zd_b b_Life_deedOfPair 1 (.ifCond .lt) 4 29 := ⟨28, by decide +kernel, by decide, rfl⟩
theorem d_Life_deedOfPair_4 : zd_l .iload_n .iload b_Life_deedOfPair 4 1 5 := Or.inl ⟨1, rfl, by decide +kernel, rfl⟩
theorem d_Life_deedOfPair_5 : zd_l .aload_n .aload b_Life_deedOfPair 5 0 6 := Or.inl ⟨0, rfl, by decide +kernel, rfl⟩
theorem d_Life_deedOfPair_6 : zd b_Life_deedOfPair 6 (.getfield 19) 3 9 := ⟨by decide +kernel, rfl⟩
theorem d_Life_deedOfPair_9 : zd b_Life_deedOfPair 9 .arraylength 1 10 := ⟨by decide +kernel, rfl⟩
theorem d_Life_deedOfPair_10 : zd_b b_Life_deedOfPair 10 (.if_icmp .ge) 13 29 := ⟨19, by decide +kernel, by decide, rfl⟩
theorem d_Life_deedOfPair_13 : zd_l .aload_n .aload b_Life_deedOfPair 13 0 14 := Or.inl ⟨0, rfl, by decide +kernel, rfl⟩
theorem d_Life_deedOfPair_14 : zd b_Life_deedOfPair 14 (.getfield 9) 3 17 := ⟨by decide +kernel, rfl⟩
theorem d_Life_deedOfPair_17 : zd_l .aload_n .aload b_Life_deedOfPair 17 0 18 := Or.inl ⟨0, rfl, by decide +kernel, rfl⟩
theorem d_Life_deedOfPair_18 : zd b_Life_deedOfPair 18 (.getfield 19) 3 21 := ⟨by decide +kernel, rfl⟩
theorem d_Life_deedOfPair_21 : zd_l .iload_n .iload b_Life_deedOfPair 21 1 22 := Or.inl ⟨1, rfl, by decide +kernel, rfl⟩
theorem d_Life_deedOfPair_22 : zd b_Life_deedOfPair 22 .iaload 1 23 := ⟨by decide +kernel, rfl⟩
theorem d_Life_deedOfPair_23 : zd b_Life_deedOfPair 23 (.invokevirtual 63) 3 26 := ⟨by decide +kernel, rfl⟩
theorem d_Life_deedOfPair_26 : zd_b b_Life_deedOfPair 26 .goto 29 30 := ⟨4, by decide +kernel, by decide, rfl⟩
theorem d_Life_deedOfPair_29 : zd b_Life_deedOfPair 29 .aconst_null 1 30 := ⟨by decide +kernel, rfl⟩
theorem d_Life_deedOfPair_30 : zd b_Life_deedOfPair 30 .areturn 1 31 := ⟨by decide +kernel, rfl⟩
theorem d_Life_hangsOn_0 : zd_l .aload_n .aload b_Life_hangsOn 0 0 1 := Or.inl ⟨0, rfl, by decide +kernel, rfl⟩
theorem d_Life_hangsOn_1 : zd_k b_Life_hangsOn "SameTuesday$Life" 1 59 3 := Or.inr (Or.inl ⟨59, by decide +kernel, by decide, rfl⟩)
theorem d_Life_hangsOn_3 : zd_k b_Life_hangsOn "SameTuesday$Life" 3 63 5 := Or.inr (Or.inl ⟨63, by decide +kernel, by decide, rfl⟩)
theorem d_Life_hangsOn_5 : zd b_Life_hangsOn 5 (.invokevirtual 121) 3 8 := ⟨by decide +kernel, rfl⟩
theorem d_Life_hangsOn_8 : zd_l .istore_n .istore b_Life_hangsOn 8 1 9 := Or.inl ⟨1, rfl, by decide +kernel, rfl⟩
theorem d_Life_hangsOn_9 : zd_k b_Life_hangsOn "SameTuesday$Life" 9 0 10 := Or.inl ⟨0, by decide +kernel, by decide, rfl⟩
theorem d_Life_hangsOn_10 : zd_l .istore_n .istore b_Life_hangsOn 10 2 11 := Or.inl ⟨2, rfl, by decide +kernel, rfl⟩
theorem d_Life_hangsOn_11 : zd_k b_Life_hangsOn "SameTuesday$Life" 11 0 12 := Or.inl ⟨0, by decide +kernel, by decide, rfl⟩
theorem d_Life_hangsOn_12 : zd_l .istore_n .istore b_Life_hangsOn 12 3 13 := Or.inl ⟨3, rfl, by decide +kernel, rfl⟩
theorem d_Life_hangsOn_13 : zd_l .iload_n .iload b_Life_hangsOn 13 3 14 := Or.inl ⟨3, rfl, by decide +kernel, rfl⟩
theorem d_Life_hangsOn_14 : zd_l .aload_n .aload b_Life_hangsOn 14 0 15 := Or.inl ⟨0, rfl, by decide +kernel, rfl⟩
theorem d_Life_hangsOn_15 : zd b_Life_hangsOn 15 (.getfield 9) 3 18 := ⟨by decide +kernel, rfl⟩
theorem d_Life_hangsOn_18 : zd b_Life_hangsOn 18 (.invokevirtual 124) 3 21 := ⟨by decide +kernel, rfl⟩
theorem d_Life_hangsOn_21 : zd_b b_Life_hangsOn 21 (.if_icmp .ge) 24 54 := ⟨33, by decide +kernel, by decide, rfl⟩
theorem d_Life_hangsOn_24 : zd_l .aload_n .aload b_Life_hangsOn 24 0 25 := Or.inl ⟨0, rfl, by decide +kernel, rfl⟩
theorem d_Life_hangsOn_25 : zd_k b_Life_hangsOn "SameTuesday$Life" 25 59 27 := Or.inr (Or.inl ⟨59, by decide +kernel, by decide, rfl⟩)
theorem d_Life_hangsOn_27 : zd_k b_Life_hangsOn "SameTuesday$Life" 27 63 29 := Or.inr (Or.inl ⟨63, by decide +kernel, by decide, rfl⟩)
theorem d_Life_hangsOn_29 : zd_k b_Life_hangsOn "SameTuesday$Life" 29 1 30 := Or.inl ⟨1, by decide +kernel, by decide, rfl⟩
theorem d_Life_hangsOn_30 : zd_l .iload_n .iload b_Life_hangsOn 30 3 31 := Or.inl ⟨3, rfl, by decide +kernel, rfl⟩
theorem d_Life_hangsOn_31 : zd b_Life_hangsOn 31 .ishl 1 32 := ⟨by decide +kernel, rfl⟩
theorem d_Life_hangsOn_32 : zd_k b_Life_hangsOn "SameTuesday$Life" 32 (-1) 33 := Or.inl ⟨(-1), by decide +kernel, by decide, rfl⟩
theorem d_Life_hangsOn_33 : zd b_Life_hangsOn 33 .ixor 1 34 := ⟨by decide +kernel, rfl⟩
theorem d_Life_hangsOn_34 : zd b_Life_hangsOn 34 .iand 1 35 := ⟨by decide +kernel, rfl⟩
theorem d_Life_hangsOn_35 : zd b_Life_hangsOn 35 (.invokevirtual 121) 3 38 := ⟨by decide +kernel, rfl⟩
theorem d_Life_hangsOn_38 : zd_l .iload_n .iload b_Life_hangsOn 38 1 39 := Or.inl ⟨1, rfl, by decide +kernel, rfl⟩
theorem d_Life_hangsOn_39 : zd_b b_Life_hangsOn 39 (.if_icmp .eq) 42 48 := ⟨9, by decide +kernel, by decide, rfl⟩
theorem d_Life_hangsOn_42 : zd_l .iload_n .iload b_Life_hangsOn 42 2 43 := Or.inl ⟨2, rfl, by decide +kernel, rfl⟩
theorem d_Life_hangsOn_43 : zd_k b_Life_hangsOn "SameTuesday$Life" 43 1 44 := Or.inl ⟨1, by decide +kernel, by decide, rfl⟩
theorem d_Life_hangsOn_44 : zd_l .iload_n .iload b_Life_hangsOn 44 3 45 := Or.inl ⟨3, rfl, by decide +kernel, rfl⟩
theorem d_Life_hangsOn_45 : zd b_Life_hangsOn 45 .ishl 1 46 := ⟨by decide +kernel, rfl⟩
theorem d_Life_hangsOn_46 : zd b_Life_hangsOn 46 .ior 1 47 := ⟨by decide +kernel, rfl⟩
theorem d_Life_hangsOn_47 : zd_l .istore_n .istore b_Life_hangsOn 47 2 48 := Or.inl ⟨2, rfl, by decide +kernel, rfl⟩
theorem d_Life_hangsOn_48 : zd_i b_Life_hangsOn 48 3 1 1 51 := ⟨by decide +kernel, by decide, rfl⟩
theorem d_Life_hangsOn_51 : zd_b b_Life_hangsOn 51 .goto 54 13 := ⟨(-38), by decide +kernel, by decide, rfl⟩
theorem d_Life_hangsOn_54 : zd_l .iload_n .iload b_Life_hangsOn 54 2 55 := Or.inl ⟨2, rfl, by decide +kernel, rfl⟩
theorem d_Life_hangsOn_55 : zd b_Life_hangsOn 55 .ireturn 1 56 := ⟨by decide +kernel, rfl⟩
theorem d_Life_countWaysTo_0 : zd_k b_Life_countWaysTo "SameTuesday$Life" 0 0 1 := Or.inl ⟨0, by decide +kernel, by decide, rfl⟩
theorem d_Life_countWaysTo_1 : zd_l .istore_n .istore b_Life_countWaysTo 1 2 2 := Or.inl ⟨2, rfl, by decide +kernel, rfl⟩
theorem d_Life_countWaysTo_2 : zd_k b_Life_countWaysTo "SameTuesday$Life" 2 0 3 := Or.inl ⟨0, by decide +kernel, by decide, rfl⟩
theorem d_Life_countWaysTo_3 : zd_l .istore_n .istore b_Life_countWaysTo 3 3 4 := Or.inl ⟨3, rfl, by decide +kernel, rfl⟩
theorem d_Life_countWaysTo_4 : zd_l .iload_n .iload b_Life_countWaysTo 4 3 5 := Or.inl ⟨3, rfl, by decide +kernel, rfl⟩
theorem d_Life_countWaysTo_5 : zd_k b_Life_countWaysTo "SameTuesday$Life" 5 1 6 := Or.inl ⟨1, by decide +kernel, by decide, rfl⟩
theorem d_Life_countWaysTo_6 : zd_l .aload_n .aload b_Life_countWaysTo 6 0 7 := Or.inl ⟨0, rfl, by decide +kernel, rfl⟩
theorem d_Life_countWaysTo_7 : zd b_Life_countWaysTo 7 (.getfield 9) 3 10 := ⟨by decide +kernel, rfl⟩
theorem d_Life_countWaysTo_10 : zd b_Life_countWaysTo 10 (.invokevirtual 124) 3 13 := ⟨by decide +kernel, rfl⟩
theorem d_Life_countWaysTo_13 : zd b_Life_countWaysTo 13 .ishl 1 14 := ⟨by decide +kernel, rfl⟩
theorem d_Life_countWaysTo_14 : zd_b b_Life_countWaysTo 14 (.if_icmp .ge) 17 39 := ⟨25, by decide +kernel, by decide, rfl⟩
theorem d_Life_countWaysTo_17 : zd_l .aload_n .aload b_Life_countWaysTo 17 0 18 := Or.inl ⟨0, rfl, by decide +kernel, rfl⟩
theorem d_Life_countWaysTo_18 : zd_k b_Life_countWaysTo "SameTuesday$Life" 18 59 20 := Or.inr (Or.inl ⟨59, by decide +kernel, by decide, rfl⟩)
theorem d_Life_countWaysTo_20 : zd_l .iload_n .iload b_Life_countWaysTo 20 3 21 := Or.inl ⟨3, rfl, by decide +kernel, rfl⟩
theorem d_Life_countWaysTo_21 : zd b_Life_countWaysTo 21 (.invokevirtual 121) 3 24 := ⟨by decide +kernel, rfl⟩
theorem d_Life_countWaysTo_24 : zd_l .iload_n .iload b_Life_countWaysTo 24 1 25 := Or.inl ⟨1, rfl, by decide +kernel, rfl⟩
theorem d_Life_countWaysTo_25 : zd b_Life_countWaysTo 25 .iand 1 26 := ⟨by decide +kernel, rfl⟩
theorem d_Life_countWaysTo_26 : zd_l .iload_n .iload b_Life_countWaysTo 26 1 27 := Or.inl ⟨1, rfl, by decide +kernel, rfl⟩
theorem d_Life_countWaysTo_27 : zd_b b_Life_countWaysTo 27 (.if_icmp .ne) 30 33 := ⟨6, by decide +kernel, by decide, rfl⟩
theorem d_Life_countWaysTo_30 : zd_i b_Life_countWaysTo 30 2 1 1 33 := ⟨by decide +kernel, by decide, rfl⟩
theorem d_Life_countWaysTo_33 : zd_i b_Life_countWaysTo 33 3 1 1 36 := ⟨by decide +kernel, by decide, rfl⟩
theorem d_Life_countWaysTo_36 : zd_b b_Life_countWaysTo 36 .goto 39 4 := ⟨(-32), by decide +kernel, by decide, rfl⟩
theorem d_Life_countWaysTo_39 : zd_l .iload_n .iload b_Life_countWaysTo 39 2 40 := Or.inl ⟨2, rfl, by decide +kernel, rfl⟩
theorem d_Life_countWaysTo_40 : zd b_Life_countWaysTo 40 .ireturn 1 41 := ⟨by decide +kernel, rfl⟩
theorem d_Life_otherAt_0 : zd_l .aload_n .aload b_Life_otherAt 0 0 1 := Or.inl ⟨0, rfl, by decide +kernel, rfl⟩
theorem d_Life_otherAt_1 : zd_k b_Life_otherAt "SameTuesday$Life" 1 59 3 := Or.inr (Or.inl ⟨59, by decide +kernel, by decide, rfl⟩)
theorem d_Life_otherAt_3 : zd_k b_Life_otherAt "SameTuesday$Life" 3 63 5 := Or.inr (Or.inl ⟨63, by decide +kernel, by decide, rfl⟩)
theorem d_Life_otherAt_5 : zd b_Life_otherAt 5 (.invokevirtual 121) 3 8 := ⟨by decide +kernel, rfl⟩
theorem d_Life_otherAt_8 : zd b_Life_otherAt 8 .pop 1 9 := ⟨by decide +kernel, rfl⟩
theorem d_Life_otherAt_9 : zd_k b_Life_otherAt "SameTuesday$Life" 9 0 10 := Or.inl ⟨0, by decide +kernel, by decide, rfl⟩
theorem d_Life_otherAt_10 : zd_l .istore_n .istore b_Life_otherAt 10 3 11 := Or.inl ⟨3, rfl, by decide +kernel, rfl⟩
theorem d_Life_otherAt_11 : zd_k b_Life_otherAt "SameTuesday$Life" 11 0 12 := Or.inl ⟨0, by decide +kernel, by decide, rfl⟩
theorem d_Life_otherAt_12 : zd_l .istore_n .istore b_Life_otherAt 12 4 14 := Or.inr ⟨by decide +kernel, rfl⟩
theorem d_Life_otherAt_14 : zd_l .iload_n .iload b_Life_otherAt 14 4 16 := Or.inr ⟨by decide +kernel, rfl⟩
theorem d_Life_otherAt_16 : zd_l .aload_n .aload b_Life_otherAt 16 0 17 := Or.inl ⟨0, rfl, by decide +kernel, rfl⟩
theorem d_Life_otherAt_17 : zd b_Life_otherAt 17 (.getfield 9) 3 20 := ⟨by decide +kernel, rfl⟩
theorem d_Life_otherAt_20 : zd b_Life_otherAt 20 (.invokevirtual 128) 3 23 := ⟨by decide +kernel, rfl⟩
theorem d_Life_otherAt_23 : zd_b b_Life_otherAt 23 (.if_icmp .ge) 26 128 := ⟨105, by decide +kernel, by decide, rfl⟩
theorem d_Life_otherAt_26 : zd_l .iload_n .iload b_Life_otherAt 26 4 28 := Or.inr ⟨by decide +kernel, rfl⟩
theorem d_Life_otherAt_28 : zd_k b_Life_otherAt "SameTuesday$Life" 28 60 30 := Or.inr (Or.inl ⟨60, by decide +kernel, by decide, rfl⟩)
theorem d_Life_otherAt_30 : zd_b b_Life_otherAt 30 (.if_icmp .ge) 33 128 := ⟨98, by decide +kernel, by decide, rfl⟩
theorem d_Life_otherAt_33 : zd_k b_Life_otherAt "SameTuesday$Life" 33 0 34 := Or.inl ⟨0, by decide +kernel, by decide, rfl⟩
theorem d_Life_otherAt_34 : zd_l .istore_n .istore b_Life_otherAt 34 5 36 := Or.inr ⟨by decide +kernel, rfl⟩
theorem d_Life_otherAt_36 : zd_l .iload_n .iload b_Life_otherAt 36 5 38 := Or.inr ⟨by decide +kernel, rfl⟩
theorem d_Life_otherAt_38 : zd_l .aload_n .aload b_Life_otherAt 38 0 39 := Or.inl ⟨0, rfl, by decide +kernel, rfl⟩
theorem d_Life_otherAt_39 : zd b_Life_otherAt 39 (.getfield 9) 3 42 := ⟨by decide +kernel, rfl⟩
theorem d_Life_otherAt_42 : zd b_Life_otherAt 42 (.invokevirtual 131) 3 45 := ⟨by decide +kernel, rfl⟩
theorem d_Life_otherAt_45 : zd_b b_Life_otherAt 45 (.if_icmp .ge) 48 122 := ⟨77, by decide +kernel, by decide, rfl⟩
theorem d_Life_otherAt_48 : zd_l .aload_n .aload b_Life_otherAt 48 0 49 := Or.inl ⟨0, rfl, by decide +kernel, rfl⟩
theorem d_Life_otherAt_49 : zd b_Life_otherAt 49 (.getfield 9) 3 52 := ⟨by decide +kernel, rfl⟩
theorem d_Life_otherAt_52 : zd_l .iload_n .iload b_Life_otherAt 52 5 54 := Or.inr ⟨by decide +kernel, rfl⟩
theorem d_Life_otherAt_54 : zd b_Life_otherAt 54 (.invokevirtual 63) 3 57 := ⟨by decide +kernel, rfl⟩
theorem d_Life_otherAt_57 : zd_l .astore_n .astore b_Life_otherAt 57 6 59 := Or.inr ⟨by decide +kernel, rfl⟩
theorem d_Life_otherAt_59 : zd_l .aload_n .aload b_Life_otherAt 59 6 61 := Or.inr ⟨by decide +kernel, rfl⟩
theorem d_Life_otherAt_61 : zd_b b_Life_otherAt 61 .ifnull 64 116 := ⟨55, by decide +kernel, by decide, rfl⟩
theorem d_Life_otherAt_64 : zd_l .aload_n .aload b_Life_otherAt 64 0 65 := Or.inl ⟨0, rfl, by decide +kernel, rfl⟩
theorem d_Life_otherAt_65 : zd b_Life_otherAt 65 (.getfield 9) 3 68 := ⟨by decide +kernel, rfl⟩
theorem d_Life_otherAt_68 : zd_l .aload_n .aload b_Life_otherAt 68 6 70 := Or.inr ⟨by decide +kernel, rfl⟩
theorem d_Life_otherAt_70 : zd_l .iload_n .iload b_Life_otherAt 70 4 72 := Or.inr ⟨by decide +kernel, rfl⟩
theorem d_Life_otherAt_72 : zd_l .aload_n .aload b_Life_otherAt 72 0 73 := Or.inl ⟨0, rfl, by decide +kernel, rfl⟩
theorem d_Life_otherAt_73 : zd b_Life_otherAt 73 (.getfield 26) 3 76 := ⟨by decide +kernel, rfl⟩
theorem d_Life_otherAt_76 : zd_l .iload_n .iload b_Life_otherAt 76 4 78 := Or.inr ⟨by decide +kernel, rfl⟩
theorem d_Life_otherAt_78 : zd b_Life_otherAt 78 .laload 1 79 := ⟨by decide +kernel, rfl⟩
theorem d_Life_otherAt_79 : zd b_Life_otherAt 79 (.invokevirtual 114) 3 82 := ⟨by decide +kernel, rfl⟩
theorem d_Life_otherAt_82 : zd_kl b_Life_otherAt "SameTuesday$Life" 82 0 83 := Or.inl ⟨0, by decide +kernel, by decide, rfl⟩
theorem d_Life_otherAt_83 : zd b_Life_otherAt 83 .lcmp 1 84 := ⟨by decide +kernel, rfl⟩
theorem d_Life_otherAt_84 : zd_b b_Life_otherAt 84 (.ifCond .eq) 87 116 := ⟨32, by decide +kernel, by decide, rfl⟩
theorem d_Life_otherAt_87 : zd_l .aload_n .aload b_Life_otherAt 87 0 88 := Or.inl ⟨0, rfl, by decide +kernel, rfl⟩
theorem d_Life_otherAt_88 : zd_l .aload_n .aload b_Life_otherAt 88 6 90 := Or.inr ⟨by decide +kernel, rfl⟩
theorem d_Life_otherAt_90 : zd_l .iload_n .iload b_Life_otherAt 90 4 92 := Or.inr ⟨by decide +kernel, rfl⟩
theorem d_Life_otherAt_92 : zd_l .iload_n .iload b_Life_otherAt 92 1 93 := Or.inl ⟨1, rfl, by decide +kernel, rfl⟩
theorem d_Life_otherAt_93 : zd b_Life_otherAt 93 (.invokevirtual 134) 3 96 := ⟨by decide +kernel, rfl⟩
theorem d_Life_otherAt_96 : zd_b b_Life_otherAt 96 (.ifCond .eq) 99 116 := ⟨20, by decide +kernel, by decide, rfl⟩
theorem d_Life_otherAt_99 : zd_l .iload_n .iload b_Life_otherAt 99 3 100 := Or.inl ⟨3, rfl, by decide +kernel, rfl⟩
theorem d_Life_otherAt_100 : zd_l .iload_n .iload b_Life_otherAt 100 2 101 := Or.inl ⟨2, rfl, by decide +kernel, rfl⟩
theorem d_Life_otherAt_101 : zd_b b_Life_otherAt 101 (.if_icmp .ne) 104 113 := ⟨12, by decide +kernel, by decide, rfl⟩
theorem d_Life_otherAt_104 : zd_k b_Life_otherAt "SameTuesday$Life" 104 10 106 := Or.inr (Or.inl ⟨10, by decide +kernel, by decide, rfl⟩)
theorem d_Life_otherAt_106 : zd_l .iload_n .iload b_Life_otherAt 106 4 108 := Or.inr ⟨by decide +kernel, rfl⟩
theorem d_Life_otherAt_108 : zd b_Life_otherAt 108 .imul 1 109 := ⟨by decide +kernel, rfl⟩
theorem d_Life_otherAt_109 : zd_l .iload_n .iload b_Life_otherAt 109 5 111 := Or.inr ⟨by decide +kernel, rfl⟩
theorem d_Life_otherAt_111 : zd b_Life_otherAt 111 .iadd 1 112 := ⟨by decide +kernel, rfl⟩
theorem d_Life_otherAt_112 : zd b_Life_otherAt 112 .ireturn 1 113 := ⟨by decide +kernel, rfl⟩
theorem d_Life_otherAt_113 : zd_i b_Life_otherAt 113 3 1 1 116 := ⟨by decide +kernel, by decide, rfl⟩
theorem d_Life_otherAt_116 : zd_i b_Life_otherAt 116 5 1 1 119 := ⟨by decide +kernel, by decide, rfl⟩
theorem d_Life_otherAt_119 : zd_b b_Life_otherAt 119 .goto 122 36 := ⟨(-83), by decide +kernel, by decide, rfl⟩
theorem d_Life_otherAt_122 : zd_i b_Life_otherAt 122 4 1 1 125 := ⟨by decide +kernel, by decide, rfl⟩
theorem d_Life_otherAt_125 : zd_b b_Life_otherAt 125 .goto 128 14 := ⟨(-111), by decide +kernel, by decide, rfl⟩
theorem d_Life_otherAt_128 : zd_l .iload_n .iload b_Life_otherAt 128 2 129 := Or.inl ⟨2, rfl, by decide +kernel, rfl⟩
theorem d_Life_otherAt_129 : zd_k b_Life_otherAt "SameTuesday$Life" 129 (-1) 130 := Or.inl ⟨(-1), by decide +kernel, by decide, rfl⟩
theorem d_Life_otherAt_130 : zd_b b_Life_otherAt 130 (.if_icmp .ne) 133 137 := ⟨7, by decide +kernel, by decide, rfl⟩
theorem d_Life_otherAt_133 : zd_l .iload_n .iload b_Life_otherAt 133 3 134 := Or.inl ⟨3, rfl, by decide +kernel, rfl⟩
theorem d_Life_otherAt_134 : zd_b b_Life_otherAt 134 .goto 137 139 := ⟨5, by decide +kernel, by decide, rfl⟩
theorem d_Life_otherAt_137 : zd_k b_Life_otherAt "SameTuesday$Life" 137 (-9) 139 := Or.inr (Or.inl ⟨(-9), by decide +kernel, by decide, rfl⟩)
theorem d_Life_otherAt_139 : zd b_Life_otherAt 139 .ireturn 1 140 := ⟨by decide +kernel, rfl⟩
theorem d_Life_endsWith_0 : zd_l .aload_n .aload b_Life_endsWith 0 0 1 := Or.inl ⟨0, rfl, by decide +kernel, rfl⟩
theorem d_Life_endsWith_1 : zd_l .aload_n .aload b_Life_endsWith 1 1 2 := Or.inl ⟨1, rfl, by decide +kernel, rfl⟩
theorem d_Life_endsWith_2 : zd b_Life_endsWith 2 (.putfield 47) 3 5 := ⟨by decide +kernel, rfl⟩
theorem d_Life_endsWith_5 : zd_l .aload_n .aload b_Life_endsWith 5 0 6 := Or.inl ⟨0, rfl, by decide +kernel, rfl⟩
theorem d_Life_endsWith_6 : zd_l .iload_n .iload b_Life_endsWith 6 2 7 := Or.inl ⟨2, rfl, by decide +kernel, rfl⟩
theorem d_Life_endsWith_7 : zd_l .aload_n .aload b_Life_endsWith 7 1 8 := Or.inl ⟨1, rfl, by decide +kernel, rfl⟩
theorem d_Life_endsWith_8 : zd b_Life_endsWith 8 (.getfield 118) 3 11 := ⟨by decide +kernel, rfl⟩
theorem d_Life_endsWith_11 : zd b_Life_endsWith 11 .iadd 1 12 := ⟨by decide +kernel, rfl⟩
theorem d_Life_endsWith_12 : zd b_Life_endsWith 12 (.putfield 50) 3 15 := ⟨by decide +kernel, rfl⟩
theorem d_Life_endsWith_15 : zd_l .aload_n .aload b_Life_endsWith 15 0 16 := Or.inl ⟨0, rfl, by decide +kernel, rfl⟩
theorem d_Life_endsWith_16 : zd_k b_Life_endsWith "SameTuesday$Life" 16 59 18 := Or.inr (Or.inl ⟨59, by decide +kernel, by decide, rfl⟩)
theorem d_Life_endsWith_18 : zd_k b_Life_endsWith "SameTuesday$Life" 18 63 20 := Or.inr (Or.inl ⟨63, by decide +kernel, by decide, rfl⟩)
theorem d_Life_endsWith_20 : zd b_Life_endsWith 20 (.invokevirtual 121) 3 23 := ⟨by decide +kernel, rfl⟩
theorem d_Life_endsWith_23 : zd_l .istore_n .istore b_Life_endsWith 23 4 25 := Or.inr ⟨by decide +kernel, rfl⟩
theorem d_Life_endsWith_25 : zd_l .aload_n .aload b_Life_endsWith 25 0 26 := Or.inl ⟨0, rfl, by decide +kernel, rfl⟩
theorem d_Life_endsWith_26 : zd b_Life_endsWith 26 .aconst_null 1 27 := ⟨by decide +kernel, rfl⟩
theorem d_Life_endsWith_27 : zd b_Life_endsWith 27 (.putfield 47) 3 30 := ⟨by decide +kernel, rfl⟩
theorem d_Life_endsWith_30 : zd_l .iload_n .iload b_Life_endsWith 30 4 32 := Or.inr ⟨by decide +kernel, rfl⟩
theorem d_Life_endsWith_32 : zd_l .iload_n .iload b_Life_endsWith 32 3 33 := Or.inl ⟨3, rfl, by decide +kernel, rfl⟩
theorem d_Life_endsWith_33 : zd_b b_Life_endsWith 33 (.if_icmp .ne) 36 40 := ⟨7, by decide +kernel, by decide, rfl⟩
theorem d_Life_endsWith_36 : zd_k b_Life_endsWith "SameTuesday$Life" 36 1 37 := Or.inl ⟨1, by decide +kernel, by decide, rfl⟩
theorem d_Life_endsWith_37 : zd_b b_Life_endsWith 37 .goto 40 41 := ⟨4, by decide +kernel, by decide, rfl⟩
theorem d_Life_endsWith_40 : zd_k b_Life_endsWith "SameTuesday$Life" 40 0 41 := Or.inl ⟨0, by decide +kernel, by decide, rfl⟩
theorem d_Life_endsWith_41 : zd b_Life_endsWith 41 .ireturn 1 42 := ⟨by decide +kernel, rfl⟩
set_option maxRecDepth 20000 in
theorem f_Mis_7_5 : zb_FL "SameTuesday$Mishap" 7 5 3 := ⟨"SameTuesday$Mishap", zF_Mis, 6, "SameTuesday$Mishap", rfl, by decide, zi_Mis, zb_mem 363 rfl rfl, Or.inr (zb_mem 364 rfl rfl)⟩
set_option maxRecDepth 20000 in
theorem f_Mis_13_5 : zb_FL "SameTuesday$Mishap" 13 5 4 := ⟨"SameTuesday$Mishap", zF_Mis, 6, "SameTuesday$Mishap", rfl, by decide, zi_Mis, zb_mem 368 rfl rfl, Or.inr (zb_mem 369 rfl rfl)⟩
set_option maxRecDepth 20000 in
theorem f_Mis_18_5 : zb_FL "SameTuesday$Mishap" 18 5 2 := ⟨"SameTuesday$Mishap", zF_Mis, 6, "SameTuesday$Mishap", rfl, by decide, zi_Mis, zb_mem 355 rfl rfl, Or.inr (zb_mem 356 rfl rfl)⟩
set_option maxRecDepth 20000 in
theorem l_Mis_1 : zl_I "SameTuesday$Mishap" 1 y_Hap_init b_Hap_init 5 4 := ⟨⟨zb_mem 341 rfl rfl, zb_mem 60 rfl rfl, zb_mem 343 rfl rfl, by decide, by decide +kernel⟩, rfl, zb_mem 342 rfl rfl⟩
set_option maxRecDepth 20000 in
theorem l_Mis_22 : zl_V "SameTuesday$Mishap" 22 y_Trc_leave b_Trc_leave 2 none 1 := ⟨⟨zb_mem 850 rfl rfl, zb_mem 56 rfl rfl, zb_mem 846 rfl rfl, by decide, by decide +kernel⟩, zb_mem 844 rfl rfl, zb_mem 845 rfl rfl⟩
theorem d_Mis_init_0 : zd_l .aload_n .aload b_Mis_init 0 0 1 := Or.inl ⟨0, rfl, by decide +kernel, rfl⟩
theorem d_Mis_init_1 : zd_l .iload_n .iload b_Mis_init 1 1 2 := Or.inl ⟨1, rfl, by decide +kernel, rfl⟩
theorem d_Mis_init_2 : zd_l .iload_n .iload b_Mis_init 2 2 3 := Or.inl ⟨2, rfl, by decide +kernel, rfl⟩
theorem d_Mis_init_3 : zd_l .iload_n .iload b_Mis_init 3 3 4 := Or.inl ⟨3, rfl, by decide +kernel, rfl⟩
theorem d_Mis_init_4 : zd_l .iload_n .iload b_Mis_init 4 4 6 := Or.inr ⟨by decide +kernel, rfl⟩
theorem d_Mis_init_6 : zd b_Mis_init 6 (.invokespecial 1) 3 9 := ⟨by decide +kernel, rfl⟩
theorem d_Mis_init_9 : zd b_Mis_init 9 .return_ 1 10 := ⟨by decide +kernel, rfl⟩
theorem d_Mis_kind_0 : zd_k b_Mis_kind "SameTuesday$Mishap" 0 1 1 := Or.inl ⟨1, by decide +kernel, by decide, rfl⟩
theorem d_Mis_kind_1 : zd b_Mis_kind 1 .ireturn 1 2 := ⟨by decide +kernel, rfl⟩
theorem d_Mis_after_0 : zd_l .lload_n .lload b_Mis_after 0 1 1 := Or.inl ⟨1, rfl, by decide +kernel, rfl⟩
theorem d_Mis_after_1 : zd_l .aload_n .aload b_Mis_after 1 0 2 := Or.inl ⟨0, rfl, by decide +kernel, rfl⟩
theorem d_Mis_after_2 : zd b_Mis_after 2 (.getfield 7) 3 5 := ⟨by decide +kernel, rfl⟩
theorem d_Mis_after_5 : zd b_Mis_after 5 .land 1 6 := ⟨by decide +kernel, rfl⟩
theorem d_Mis_after_6 : zd_l .aload_n .aload b_Mis_after 6 0 7 := Or.inl ⟨0, rfl, by decide +kernel, rfl⟩
theorem d_Mis_after_7 : zd b_Mis_after 7 (.getfield 13) 3 10 := ⟨by decide +kernel, rfl⟩
theorem d_Mis_after_10 : zd b_Mis_after 10 .land 1 11 := ⟨by decide +kernel, rfl⟩
theorem d_Mis_after_11 : zd_l .lstore_n .lstore b_Mis_after 11 3 12 := Or.inl ⟨3, rfl, by decide +kernel, rfl⟩
theorem d_Mis_after_12 : zd_l .lload_n .lload b_Mis_after 12 1 13 := Or.inl ⟨1, rfl, by decide +kernel, rfl⟩
theorem d_Mis_after_13 : zd_l .lload_n .lload b_Mis_after 13 3 14 := Or.inl ⟨3, rfl, by decide +kernel, rfl⟩
set_option maxRecDepth 20000 in
theorem d_Mis_after_14 : zd_kl b_Mis_after "SameTuesday$Mishap" 14 (-1) 17 := Or.inr ⟨16, by decide +kernel, zb_mem 565 rfl rfl, rfl⟩
theorem d_Mis_after_17 : zd b_Mis_after 17 .lxor 1 18 := ⟨by decide +kernel, rfl⟩
theorem d_Mis_after_18 : zd b_Mis_after 18 .land 1 19 := ⟨by decide +kernel, rfl⟩
theorem d_Mis_after_19 : zd_l .lload_n .lload b_Mis_after 19 3 20 := Or.inl ⟨3, rfl, by decide +kernel, rfl⟩
theorem d_Mis_after_20 : zd_k b_Mis_after "SameTuesday$Mishap" 20 1 21 := Or.inl ⟨1, by decide +kernel, by decide, rfl⟩
theorem d_Mis_after_21 : zd_l .aload_n .aload b_Mis_after 21 0 22 := Or.inl ⟨0, rfl, by decide +kernel, rfl⟩
theorem d_Mis_after_22 : zd b_Mis_after 22 (.getfield 18) 3 25 := ⟨by decide +kernel, rfl⟩
theorem d_Mis_after_25 : zd b_Mis_after 25 .ishl 1 26 := ⟨by decide +kernel, rfl⟩
theorem d_Mis_after_26 : zd b_Mis_after 26 .lushr 1 27 := ⟨by decide +kernel, rfl⟩
theorem d_Mis_after_27 : zd b_Mis_after 27 .lor 1 28 := ⟨by decide +kernel, rfl⟩
theorem d_Mis_after_28 : zd b_Mis_after 28 .lreturn 1 29 := ⟨by decide +kernel, rfl⟩
theorem d_Mis_telling_0 : zd_l .aload_n .aload b_Mis_telling 0 1 1 := Or.inl ⟨1, rfl, by decide +kernel, rfl⟩
theorem d_Mis_telling_1 : zd_k b_Mis_telling "SameTuesday$Mishap" 1 2 2 := Or.inl ⟨2, by decide +kernel, by decide, rfl⟩
theorem d_Mis_telling_2 : zd b_Mis_telling 2 (.invokevirtual 22) 3 5 := ⟨by decide +kernel, rfl⟩
theorem d_Mis_telling_5 : zd_l .aload_n .aload b_Mis_telling 5 0 6 := Or.inl ⟨0, rfl, by decide +kernel, rfl⟩
theorem d_Mis_telling_6 : zd_l .aload_n .aload b_Mis_telling 6 1 7 := Or.inl ⟨1, rfl, by decide +kernel, rfl⟩
theorem d_Mis_telling_7 : zd b_Mis_telling 7 (.invokevirtual 28) 3 10 := ⟨by decide +kernel, rfl⟩
theorem d_Mis_telling_10 : zd_k b_Mis_telling "SameTuesday$Mishap" 10 100 12 := Or.inr (Or.inl ⟨100, by decide +kernel, by decide, rfl⟩)
theorem d_Mis_telling_12 : zd b_Mis_telling 12 .iadd 1 13 := ⟨by decide +kernel, rfl⟩
theorem d_Mis_telling_13 : zd b_Mis_telling 13 .ireturn 1 14 := ⟨by decide +kernel, rfl⟩
set_option maxRecDepth 20000 in
theorem f_Rch_9_6 : zb_FL "SameTuesday$Reach" 9 6 0 := ⟨"SameTuesday$Reach", zF_Rch, 5, "SameTuesday$Reach", rfl, by decide, zi_Rch, zb_mem 172 rfl rfl, Or.inl rfl⟩
set_option maxRecDepth 20000 in
theorem p_Rch_9_6 : zb_PF "SameTuesday$Reach" 9 6 0 (.object "SameTuesday$Town") := ⟨"SameTuesday$Reach", zF_Rch, 5, "SameTuesday$Reach", zt_Rch, rfl, by decide, zi_Rch, zb_mem 172 rfl rfl, Or.inl rfl, zk_Rch, zn_Rch, rfl, rfl, rfl⟩
set_option maxRecDepth 20000 in
theorem f_Rch_15_6 : zb_FL "SameTuesday$Reach" 15 6 1 := ⟨"SameTuesday$Reach", zF_Rch, 5, "SameTuesday$Reach", rfl, by decide, zi_Rch, zb_mem 173 rfl rfl, Or.inl rfl⟩
set_option maxRecDepth 20000 in
theorem p_Rch_15_6 : zb_PF "SameTuesday$Reach" 15 6 1 (.array .long) := ⟨"SameTuesday$Reach", zF_Rch, 5, "SameTuesday$Reach", zt_Rch, rfl, by decide, zi_Rch, zb_mem 173 rfl rfl, Or.inl rfl, zk_Rch, zn_Rch, rfl, rfl, rfl⟩
set_option maxRecDepth 20000 in
theorem f_Rch_19_6 : zb_FL "SameTuesday$Reach" 19 6 2 := ⟨"SameTuesday$Reach", zF_Rch, 5, "SameTuesday$Reach", rfl, by decide, zi_Rch, zb_mem 174 rfl rfl, Or.inl rfl⟩
set_option maxRecDepth 20000 in
theorem p_Rch_19_6 : zb_PF "SameTuesday$Reach" 19 6 2 (.array .long) := ⟨"SameTuesday$Reach", zF_Rch, 5, "SameTuesday$Reach", zt_Rch, rfl, by decide, zi_Rch, zb_mem 174 rfl rfl, Or.inl rfl, zk_Rch, zn_Rch, rfl, rfl, rfl⟩
set_option maxRecDepth 20000 in
theorem f_Rch_22_6 : zb_FL "SameTuesday$Reach" 22 6 3 := ⟨"SameTuesday$Reach", zF_Rch, 5, "SameTuesday$Reach", rfl, by decide, zi_Rch, zb_mem 175 rfl rfl, Or.inl rfl⟩
set_option maxRecDepth 20000 in
theorem p_Rch_22_6 : zb_PL "SameTuesday$Reach" 22 6 3 .long := ⟨"SameTuesday$Reach", zF_Rch, 5, "SameTuesday$Reach", zt_Rch, rfl, by decide, zi_Rch, zb_mem 175 rfl rfl, Or.inl rfl, zk_Rch, zn_Rch, rfl, rfl⟩
set_option maxRecDepth 20000 in
theorem f_Rch_26_6 : zb_FL "SameTuesday$Reach" 26 6 4 := ⟨"SameTuesday$Reach", zF_Rch, 5, "SameTuesday$Reach", rfl, by decide, zi_Rch, zb_mem 176 rfl rfl, Or.inl rfl⟩
set_option maxRecDepth 20000 in
theorem p_Rch_26_6 : zb_PL "SameTuesday$Reach" 26 6 4 .boolean := ⟨"SameTuesday$Reach", zF_Rch, 5, "SameTuesday$Reach", zt_Rch, rfl, by decide, zi_Rch, zb_mem 176 rfl rfl, Or.inl rfl, zk_Rch, zn_Rch, rfl, rfl⟩
set_option maxRecDepth 20000 in
theorem f_Rch_84_1 : zb_FL "SameTuesday$Reach" 84 1 3 := ⟨"SameTuesday$Deed", zF_Deed, 5, "SameTuesday$Deed", rfl, by decide, zi_Deed, zb_mem 433 rfl rfl, Or.inl rfl⟩
set_option maxRecDepth 20000 in
theorem l_Rch_30 : zl_V "SameTuesday$Reach" 30 y_Rch_reckon b_Rch_reckon 2 none 0 := ⟨⟨zb_mem 637 rfl rfl, zb_mem 54 rfl rfl, zb_mem 640 rfl rfl, by decide, by decide +kernel⟩, zb_mem 639 rfl rfl, zb_mem 14 rfl rfl⟩
set_option maxRecDepth 20000 in
theorem l_Rch_33 : zl_V "SameTuesday$Reach" 33 y_Twn_minuteInDay b_Twn_minuteInDay 2 (some .int) 1 := ⟨⟨zb_mem 665 rfl rfl, zb_mem 52 rfl rfl, zb_mem 548 rfl rfl, by decide, by decide +kernel⟩, zb_mem 546 rfl rfl, zb_mem 547 rfl rfl⟩
set_option maxRecDepth 20000 in
theorem l_Rch_39 : zl_N "SameTuesday$Reach" 39 y_Tue_worldWithAll "SameTuesday" b_Tue_worldWithAll 4 (some .long) 1 := ⟨List.mem_of_getElem? (i := 3) rfl, zb_mem 50 rfl rfl, zb_mem 679 rfl rfl, by decide, by decide +kernel, zb_mem 678 rfl rfl⟩
set_option maxRecDepth 20000 in
theorem l_Rch_43 : zl_V "SameTuesday$Reach" 43 y_Twn_minuteCount b_Twn_minuteCount 1 (some .int) 0 := ⟨⟨zb_mem 641 rfl rfl, zb_mem 52 rfl rfl, zb_mem 510 rfl rfl, by decide, by decide +kernel⟩, zb_mem 508 rfl rfl, zb_mem 509 rfl rfl⟩
set_option maxRecDepth 20000 in
theorem l_Rch_47 : zl_V "SameTuesday$Reach" 47 y_Rch_worldAt b_Rch_worldAt 3 (some .long) 1 := ⟨⟨zb_mem 681 rfl rfl, zb_mem 54 rfl rfl, zb_mem 636 rfl rfl, by decide, by decide +kernel⟩, zb_mem 634 rfl rfl, zb_mem 635 rfl rfl⟩
set_option maxRecDepth 20000 in
theorem l_Rch_50 : zl_V "SameTuesday$Reach" 50 y_Rch_passHappenings b_Rch_passHappenings 3 none 1 := ⟨⟨zb_mem 642 rfl rfl, zb_mem 54 rfl rfl, zb_mem 645 rfl rfl, by decide, by decide +kernel⟩, zb_mem 644 rfl rfl, zb_mem 15 rfl rfl⟩
set_option maxRecDepth 20000 in
theorem l_Rch_54 : zl_V "SameTuesday$Reach" 54 y_Rch_endDeeds b_Rch_endDeeds 4 none 0 := ⟨⟨zb_mem 647 rfl rfl, zb_mem 54 rfl rfl, zb_mem 650 rfl rfl, by decide, by decide +kernel⟩, zb_mem 649 rfl rfl, zb_mem 16 rfl rfl⟩
set_option maxRecDepth 20000 in
theorem l_Rch_57 : zl_V "SameTuesday$Reach" 57 y_Rch_beginDeeds b_Rch_beginDeeds 4 none 1 := ⟨⟨zb_mem 656 rfl rfl, zb_mem 54 rfl rfl, zb_mem 659 rfl rfl, by decide, by decide +kernel⟩, zb_mem 658 rfl rfl, zb_mem 17 rfl rfl⟩
set_option maxRecDepth 20000 in
theorem l_Rch_60 : zl_V "SameTuesday$Reach" 60 y_Rch_everyWorld b_Rch_everyWorld 4 (some .long) 0 := ⟨⟨zb_mem 661 rfl rfl, zb_mem 54 rfl rfl, zb_mem 664 rfl rfl, by decide, by decide +kernel⟩, zb_mem 663 rfl rfl, zb_mem 18 rfl rfl⟩
set_option maxRecDepth 20000 in
theorem l_Rch_64 : zl_V "SameTuesday$Reach" 64 y_Twn_happenIn b_Twn_happenIn 9 (some .long) 3 := ⟨⟨zb_mem 646 rfl rfl, zb_mem 52 rfl rfl, zb_mem 553 rfl rfl, by decide, by decide +kernel⟩, zb_mem 551 rfl rfl, zb_mem 552 rfl rfl⟩
set_option maxRecDepth 20000 in
theorem l_Rch_68 : zl_V "SameTuesday$Reach" 68 y_Twn_deedOf b_Twn_deedOf 2 (some (.object "SameTuesday$Deed")) 1 := ⟨⟨zb_mem 651 rfl rfl, zb_mem 52 rfl rfl, zb_mem 498 rfl rfl, by decide, by decide +kernel⟩, zb_mem 496 rfl rfl, zb_mem 497 rfl rfl⟩
set_option maxRecDepth 20000 in
theorem l_Rch_72 : zl_V "SameTuesday$Reach" 72 y_Deed_after b_Deed_after 9 (some .long) 1 := ⟨⟨zb_mem 652 rfl rfl, zb_mem 63 rfl rfl, zb_mem 575 rfl rfl, by decide, by decide +kernel⟩, zb_mem 573 rfl rfl, zb_mem 574 rfl rfl⟩
set_option maxRecDepth 20000 in
theorem l_Rch_88 : zl_V "SameTuesday$Reach" 88 y_Twn_openTo b_Twn_openTo 5 (some .long) 3 := ⟨⟨zb_mem 660 rfl rfl, zb_mem 52 rfl rfl, zb_mem 596 rfl rfl, by decide, by decide +kernel⟩, zb_mem 594 rfl rfl, zb_mem 595 rfl rfl⟩
theorem d_Rch_init_0 : zd_l .aload_n .aload b_Rch_init 0 0 1 := Or.inl ⟨0, rfl, by decide +kernel, rfl⟩
theorem d_Rch_init_1 : zd b_Rch_init 1 (.invokespecial 3) 3 4 := ⟨by decide +kernel, rfl⟩
theorem d_Rch_init_4 : zd_l .aload_n .aload b_Rch_init 4 0 5 := Or.inl ⟨0, rfl, by decide +kernel, rfl⟩
theorem d_Rch_init_5 : zd_l .aload_n .aload b_Rch_init 5 1 6 := Or.inl ⟨1, rfl, by decide +kernel, rfl⟩
theorem d_Rch_init_6 : zd b_Rch_init 6 (.putfield 9) 3 9 := ⟨by decide +kernel, rfl⟩
theorem d_Rch_init_9 : zd_l .aload_n .aload b_Rch_init 9 0 10 := Or.inl ⟨0, rfl, by decide +kernel, rfl⟩
theorem d_Rch_init_10 : zd_k b_Rch_init "SameTuesday$Reach" 10 60 12 := Or.inr (Or.inl ⟨60, by decide +kernel, by decide, rfl⟩)
theorem d_Rch_init_12 : zd b_Rch_init 12 (.newarray .long) 2 14 := ⟨by decide +kernel, rfl⟩
theorem d_Rch_init_14 : zd b_Rch_init 14 (.putfield 15) 3 17 := ⟨by decide +kernel, rfl⟩
theorem d_Rch_init_17 : zd_l .aload_n .aload b_Rch_init 17 0 18 := Or.inl ⟨0, rfl, by decide +kernel, rfl⟩
theorem d_Rch_init_18 : zd_k b_Rch_init "SameTuesday$Reach" 18 50 20 := Or.inr (Or.inl ⟨50, by decide +kernel, by decide, rfl⟩)
theorem d_Rch_init_20 : zd b_Rch_init 20 (.newarray .long) 2 22 := ⟨by decide +kernel, rfl⟩
theorem d_Rch_init_22 : zd b_Rch_init 22 (.putfield 19) 3 25 := ⟨by decide +kernel, rfl⟩
theorem d_Rch_init_25 : zd_l .aload_n .aload b_Rch_init 25 0 26 := Or.inl ⟨0, rfl, by decide +kernel, rfl⟩
theorem d_Rch_init_26 : zd_kl b_Rch_init "SameTuesday$Reach" 26 1 27 := Or.inl ⟨1, by decide +kernel, by decide, rfl⟩
theorem d_Rch_init_27 : zd b_Rch_init 27 (.putfield 22) 3 30 := ⟨by decide +kernel, rfl⟩
theorem d_Rch_init_30 : zd_l .aload_n .aload b_Rch_init 30 0 31 := Or.inl ⟨0, rfl, by decide +kernel, rfl⟩
theorem d_Rch_init_31 : zd_k b_Rch_init "SameTuesday$Reach" 31 1 32 := Or.inl ⟨1, by decide +kernel, by decide, rfl⟩
theorem d_Rch_init_32 : zd b_Rch_init 32 (.putfield 26) 3 35 := ⟨by decide +kernel, rfl⟩
theorem d_Rch_init_35 : zd b_Rch_init 35 .return_ 1 36 := ⟨by decide +kernel, rfl⟩
theorem d_Rch_spoil_0 : zd_l .aload_n .aload b_Rch_spoil 0 0 1 := Or.inl ⟨0, rfl, by decide +kernel, rfl⟩
theorem d_Rch_spoil_1 : zd_k b_Rch_spoil "SameTuesday$Reach" 1 1 2 := Or.inl ⟨1, by decide +kernel, by decide, rfl⟩
theorem d_Rch_spoil_2 : zd b_Rch_spoil 2 (.putfield 26) 3 5 := ⟨by decide +kernel, rfl⟩
theorem d_Rch_spoil_5 : zd b_Rch_spoil 5 .return_ 1 6 := ⟨by decide +kernel, rfl⟩
theorem d_Rch_worldAt_0 : zd_l .aload_n .aload b_Rch_worldAt 0 0 1 := Or.inl ⟨0, rfl, by decide +kernel, rfl⟩
theorem d_Rch_worldAt_1 : zd b_Rch_worldAt 1 (.getfield 26) 3 4 := ⟨by decide +kernel, rfl⟩
theorem d_Rch_worldAt_4 : zd_b b_Rch_worldAt 4 (.ifCond .eq) 7 16 := ⟨12, by decide +kernel, by decide, rfl⟩
theorem d_Rch_worldAt_7 : zd_l .aload_n .aload b_Rch_worldAt 7 0 8 := Or.inl ⟨0, rfl, by decide +kernel, rfl⟩
theorem d_Rch_worldAt_8 : zd b_Rch_worldAt 8 (.invokevirtual 30) 3 11 := ⟨by decide +kernel, rfl⟩
theorem d_Rch_worldAt_11 : zd_l .aload_n .aload b_Rch_worldAt 11 0 12 := Or.inl ⟨0, rfl, by decide +kernel, rfl⟩
theorem d_Rch_worldAt_12 : zd_k b_Rch_worldAt "SameTuesday$Reach" 12 0 13 := Or.inl ⟨0, by decide +kernel, by decide, rfl⟩
theorem d_Rch_worldAt_13 : zd b_Rch_worldAt 13 (.putfield 26) 3 16 := ⟨by decide +kernel, rfl⟩
theorem d_Rch_worldAt_16 : zd_l .aload_n .aload b_Rch_worldAt 16 0 17 := Or.inl ⟨0, rfl, by decide +kernel, rfl⟩
theorem d_Rch_worldAt_17 : zd b_Rch_worldAt 17 (.getfield 9) 3 20 := ⟨by decide +kernel, rfl⟩
theorem d_Rch_worldAt_20 : zd_l .iload_n .iload b_Rch_worldAt 20 1 21 := Or.inl ⟨1, rfl, by decide +kernel, rfl⟩
theorem d_Rch_worldAt_21 : zd b_Rch_worldAt 21 (.invokevirtual 33) 3 24 := ⟨by decide +kernel, rfl⟩
theorem d_Rch_worldAt_24 : zd_l .istore_n .istore b_Rch_worldAt 24 2 25 := Or.inl ⟨2, rfl, by decide +kernel, rfl⟩
theorem d_Rch_worldAt_25 : zd_l .iload_n .iload b_Rch_worldAt 25 2 26 := Or.inl ⟨2, rfl, by decide +kernel, rfl⟩
theorem d_Rch_worldAt_26 : zd_b b_Rch_worldAt 26 (.ifCond .lt) 29 47 := ⟨21, by decide +kernel, by decide, rfl⟩
theorem d_Rch_worldAt_29 : zd_l .iload_n .iload b_Rch_worldAt 29 2 30 := Or.inl ⟨2, rfl, by decide +kernel, rfl⟩
theorem d_Rch_worldAt_30 : zd_l .aload_n .aload b_Rch_worldAt 30 0 31 := Or.inl ⟨0, rfl, by decide +kernel, rfl⟩
theorem d_Rch_worldAt_31 : zd b_Rch_worldAt 31 (.getfield 15) 3 34 := ⟨by decide +kernel, rfl⟩
theorem d_Rch_worldAt_34 : zd b_Rch_worldAt 34 .arraylength 1 35 := ⟨by decide +kernel, rfl⟩
theorem d_Rch_worldAt_35 : zd_b b_Rch_worldAt 35 (.if_icmp .ge) 38 47 := ⟨12, by decide +kernel, by decide, rfl⟩
theorem d_Rch_worldAt_38 : zd_l .aload_n .aload b_Rch_worldAt 38 0 39 := Or.inl ⟨0, rfl, by decide +kernel, rfl⟩
theorem d_Rch_worldAt_39 : zd b_Rch_worldAt 39 (.getfield 15) 3 42 := ⟨by decide +kernel, rfl⟩
theorem d_Rch_worldAt_42 : zd_l .iload_n .iload b_Rch_worldAt 42 2 43 := Or.inl ⟨2, rfl, by decide +kernel, rfl⟩
theorem d_Rch_worldAt_43 : zd b_Rch_worldAt 43 .laload 1 44 := ⟨by decide +kernel, rfl⟩
theorem d_Rch_worldAt_44 : zd_b b_Rch_worldAt 44 .goto 47 48 := ⟨4, by decide +kernel, by decide, rfl⟩
theorem d_Rch_worldAt_47 : zd_kl b_Rch_worldAt "SameTuesday$Reach" 47 0 48 := Or.inl ⟨0, by decide +kernel, by decide, rfl⟩
theorem d_Rch_worldAt_48 : zd b_Rch_worldAt 48 .lreturn 1 49 := ⟨by decide +kernel, rfl⟩
theorem d_Rch_soonestOf_0 : zd_l .iload_n .iload b_Rch_soonestOf 0 1 1 := Or.inl ⟨1, rfl, by decide +kernel, rfl⟩
theorem d_Rch_soonestOf_1 : zd b_Rch_soonestOf 1 (.invokestatic 39) 3 4 := ⟨by decide +kernel, rfl⟩
theorem d_Rch_soonestOf_4 : zd_l .lstore_n .lstore b_Rch_soonestOf 4 2 5 := Or.inl ⟨2, rfl, by decide +kernel, rfl⟩
theorem d_Rch_soonestOf_5 : zd_k b_Rch_soonestOf "SameTuesday$Reach" 5 0 6 := Or.inl ⟨0, by decide +kernel, by decide, rfl⟩
theorem d_Rch_soonestOf_6 : zd_l .istore_n .istore b_Rch_soonestOf 6 4 8 := Or.inr ⟨by decide +kernel, rfl⟩
theorem d_Rch_soonestOf_8 : zd_l .iload_n .iload b_Rch_soonestOf 8 4 10 := Or.inr ⟨by decide +kernel, rfl⟩
theorem d_Rch_soonestOf_10 : zd_l .aload_n .aload b_Rch_soonestOf 10 0 11 := Or.inl ⟨0, rfl, by decide +kernel, rfl⟩
theorem d_Rch_soonestOf_11 : zd b_Rch_soonestOf 11 (.getfield 9) 3 14 := ⟨by decide +kernel, rfl⟩
theorem d_Rch_soonestOf_14 : zd b_Rch_soonestOf 14 (.invokevirtual 43) 3 17 := ⟨by decide +kernel, rfl⟩
theorem d_Rch_soonestOf_17 : zd_b b_Rch_soonestOf 17 (.if_icmp .ge) 20 42 := ⟨25, by decide +kernel, by decide, rfl⟩
theorem d_Rch_soonestOf_20 : zd_l .aload_n .aload b_Rch_soonestOf 20 0 21 := Or.inl ⟨0, rfl, by decide +kernel, rfl⟩
theorem d_Rch_soonestOf_21 : zd_l .iload_n .iload b_Rch_soonestOf 21 4 23 := Or.inr ⟨by decide +kernel, rfl⟩
theorem d_Rch_soonestOf_23 : zd b_Rch_soonestOf 23 (.invokevirtual 47) 3 26 := ⟨by decide +kernel, rfl⟩
theorem d_Rch_soonestOf_26 : zd_l .lload_n .lload b_Rch_soonestOf 26 2 27 := Or.inl ⟨2, rfl, by decide +kernel, rfl⟩
theorem d_Rch_soonestOf_27 : zd b_Rch_soonestOf 27 .land 1 28 := ⟨by decide +kernel, rfl⟩
theorem d_Rch_soonestOf_28 : zd_kl b_Rch_soonestOf "SameTuesday$Reach" 28 0 29 := Or.inl ⟨0, by decide +kernel, by decide, rfl⟩
theorem d_Rch_soonestOf_29 : zd b_Rch_soonestOf 29 .lcmp 1 30 := ⟨by decide +kernel, rfl⟩
theorem d_Rch_soonestOf_30 : zd_b b_Rch_soonestOf 30 (.ifCond .eq) 33 36 := ⟨6, by decide +kernel, by decide, rfl⟩
theorem d_Rch_soonestOf_33 : zd_l .iload_n .iload b_Rch_soonestOf 33 4 35 := Or.inr ⟨by decide +kernel, rfl⟩
theorem d_Rch_soonestOf_35 : zd b_Rch_soonestOf 35 .ireturn 1 36 := ⟨by decide +kernel, rfl⟩
theorem d_Rch_soonestOf_36 : zd_i b_Rch_soonestOf 36 4 1 1 39 := ⟨by decide +kernel, by decide, rfl⟩
theorem d_Rch_soonestOf_39 : zd_b b_Rch_soonestOf 39 .goto 42 8 := ⟨(-31), by decide +kernel, by decide, rfl⟩
theorem d_Rch_soonestOf_42 : zd_k b_Rch_soonestOf "SameTuesday$Reach" 42 (-9) 44 := Or.inr (Or.inl ⟨(-9), by decide +kernel, by decide, rfl⟩)
theorem d_Rch_soonestOf_44 : zd b_Rch_soonestOf 44 .ireturn 1 45 := ⟨by decide +kernel, rfl⟩
theorem d_Rch_barOf_0 : zd_l .aload_n .aload b_Rch_barOf 0 0 1 := Or.inl ⟨0, rfl, by decide +kernel, rfl⟩
theorem d_Rch_barOf_1 : zd_k b_Rch_barOf "SameTuesday$Reach" 1 59 3 := Or.inr (Or.inl ⟨59, by decide +kernel, by decide, rfl⟩)
theorem d_Rch_barOf_3 : zd b_Rch_barOf 3 (.invokevirtual 47) 3 6 := ⟨by decide +kernel, rfl⟩
theorem d_Rch_barOf_6 : zd_l .lstore_n .lstore b_Rch_barOf 6 2 7 := Or.inl ⟨2, rfl, by decide +kernel, rfl⟩
theorem d_Rch_barOf_7 : zd_k b_Rch_barOf "SameTuesday$Reach" 7 0 8 := Or.inl ⟨0, by decide +kernel, by decide, rfl⟩
theorem d_Rch_barOf_8 : zd_l .istore_n .istore b_Rch_barOf 8 4 10 := Or.inr ⟨by decide +kernel, rfl⟩
theorem d_Rch_barOf_10 : zd_l .iload_n .iload b_Rch_barOf 10 4 12 := Or.inr ⟨by decide +kernel, rfl⟩
theorem d_Rch_barOf_12 : zd_k b_Rch_barOf "SameTuesday$Reach" 12 6 14 := Or.inr (Or.inl ⟨6, by decide +kernel, by decide, rfl⟩)
theorem d_Rch_barOf_14 : zd_b b_Rch_barOf 14 (.if_icmp .ge) 17 83 := ⟨69, by decide +kernel, by decide, rfl⟩
theorem d_Rch_barOf_17 : zd_l .iload_n .iload b_Rch_barOf 17 4 19 := Or.inr ⟨by decide +kernel, rfl⟩
theorem d_Rch_barOf_19 : zd_k b_Rch_barOf "SameTuesday$Reach" 19 1 20 := Or.inl ⟨1, by decide +kernel, by decide, rfl⟩
theorem d_Rch_barOf_20 : zd b_Rch_barOf 20 .iadd 1 21 := ⟨by decide +kernel, rfl⟩
theorem d_Rch_barOf_21 : zd_l .istore_n .istore b_Rch_barOf 21 5 23 := Or.inr ⟨by decide +kernel, rfl⟩
theorem d_Rch_barOf_23 : zd_l .iload_n .iload b_Rch_barOf 23 5 25 := Or.inr ⟨by decide +kernel, rfl⟩
theorem d_Rch_barOf_25 : zd_k b_Rch_barOf "SameTuesday$Reach" 25 6 27 := Or.inr (Or.inl ⟨6, by decide +kernel, by decide, rfl⟩)
theorem d_Rch_barOf_27 : zd_b b_Rch_barOf 27 (.if_icmp .ge) 30 77 := ⟨50, by decide +kernel, by decide, rfl⟩
theorem d_Rch_barOf_30 : zd_k b_Rch_barOf "SameTuesday$Reach" 30 1 31 := Or.inl ⟨1, by decide +kernel, by decide, rfl⟩
theorem d_Rch_barOf_31 : zd_l .iload_n .iload b_Rch_barOf 31 4 33 := Or.inr ⟨by decide +kernel, rfl⟩
theorem d_Rch_barOf_33 : zd b_Rch_barOf 33 .ishl 1 34 := ⟨by decide +kernel, rfl⟩
theorem d_Rch_barOf_34 : zd_k b_Rch_barOf "SameTuesday$Reach" 34 1 35 := Or.inl ⟨1, by decide +kernel, by decide, rfl⟩
theorem d_Rch_barOf_35 : zd_l .iload_n .iload b_Rch_barOf 35 5 37 := Or.inr ⟨by decide +kernel, rfl⟩
theorem d_Rch_barOf_37 : zd b_Rch_barOf 37 .ishl 1 38 := ⟨by decide +kernel, rfl⟩
theorem d_Rch_barOf_38 : zd b_Rch_barOf 38 .ior 1 39 := ⟨by decide +kernel, rfl⟩
theorem d_Rch_barOf_39 : zd_l .istore_n .istore b_Rch_barOf 39 6 41 := Or.inr ⟨by decide +kernel, rfl⟩
theorem d_Rch_barOf_41 : zd_l .iload_n .iload b_Rch_barOf 41 1 42 := Or.inl ⟨1, rfl, by decide +kernel, rfl⟩
theorem d_Rch_barOf_42 : zd_l .iload_n .iload b_Rch_barOf 42 6 44 := Or.inr ⟨by decide +kernel, rfl⟩
theorem d_Rch_barOf_44 : zd b_Rch_barOf 44 .iand 1 45 := ⟨by decide +kernel, rfl⟩
theorem d_Rch_barOf_45 : zd_l .iload_n .iload b_Rch_barOf 45 6 47 := Or.inr ⟨by decide +kernel, rfl⟩
theorem d_Rch_barOf_47 : zd_b b_Rch_barOf 47 (.if_icmp .ne) 50 71 := ⟨24, by decide +kernel, by decide, rfl⟩
theorem d_Rch_barOf_50 : zd_l .lload_n .lload b_Rch_barOf 50 2 51 := Or.inl ⟨2, rfl, by decide +kernel, rfl⟩
theorem d_Rch_barOf_51 : zd_l .iload_n .iload b_Rch_barOf 51 6 53 := Or.inr ⟨by decide +kernel, rfl⟩
theorem d_Rch_barOf_53 : zd b_Rch_barOf 53 (.invokestatic 39) 3 56 := ⟨by decide +kernel, rfl⟩
theorem d_Rch_barOf_56 : zd b_Rch_barOf 56 .land 1 57 := ⟨by decide +kernel, rfl⟩
theorem d_Rch_barOf_57 : zd_kl b_Rch_barOf "SameTuesday$Reach" 57 0 58 := Or.inl ⟨0, by decide +kernel, by decide, rfl⟩
theorem d_Rch_barOf_58 : zd b_Rch_barOf 58 .lcmp 1 59 := ⟨by decide +kernel, rfl⟩
theorem d_Rch_barOf_59 : zd_b b_Rch_barOf 59 (.ifCond .ne) 62 71 := ⟨12, by decide +kernel, by decide, rfl⟩
theorem d_Rch_barOf_62 : zd_k b_Rch_barOf "SameTuesday$Reach" 62 10 64 := Or.inr (Or.inl ⟨10, by decide +kernel, by decide, rfl⟩)
theorem d_Rch_barOf_64 : zd_l .iload_n .iload b_Rch_barOf 64 4 66 := Or.inr ⟨by decide +kernel, rfl⟩
theorem d_Rch_barOf_66 : zd b_Rch_barOf 66 .imul 1 67 := ⟨by decide +kernel, rfl⟩
theorem d_Rch_barOf_67 : zd_l .iload_n .iload b_Rch_barOf 67 5 69 := Or.inr ⟨by decide +kernel, rfl⟩
theorem d_Rch_barOf_69 : zd b_Rch_barOf 69 .iadd 1 70 := ⟨by decide +kernel, rfl⟩
theorem d_Rch_barOf_70 : zd b_Rch_barOf 70 .ireturn 1 71 := ⟨by decide +kernel, rfl⟩
theorem d_Rch_barOf_71 : zd_i b_Rch_barOf 71 5 1 1 74 := ⟨by decide +kernel, by decide, rfl⟩
theorem d_Rch_barOf_74 : zd_b b_Rch_barOf 74 .goto 77 23 := ⟨(-51), by decide +kernel, by decide, rfl⟩
theorem d_Rch_barOf_77 : zd_i b_Rch_barOf 77 4 1 1 80 := ⟨by decide +kernel, by decide, rfl⟩
theorem d_Rch_barOf_80 : zd_b b_Rch_barOf 80 .goto 83 10 := ⟨(-70), by decide +kernel, by decide, rfl⟩
theorem d_Rch_barOf_83 : zd_k b_Rch_barOf "SameTuesday$Reach" 83 (-9) 85 := Or.inr (Or.inl ⟨(-9), by decide +kernel, by decide, rfl⟩)
theorem d_Rch_barOf_85 : zd b_Rch_barOf 85 .ireturn 1 86 := ⟨by decide +kernel, rfl⟩
theorem d_Rch_reckon_0 : zd_l .aload_n .aload b_Rch_reckon 0 0 1 := Or.inl ⟨0, rfl, by decide +kernel, rfl⟩
theorem d_Rch_reckon_1 : zd_kl b_Rch_reckon "SameTuesday$Reach" 1 1 2 := Or.inl ⟨1, by decide +kernel, by decide, rfl⟩
theorem d_Rch_reckon_2 : zd b_Rch_reckon 2 (.putfield 22) 3 5 := ⟨by decide +kernel, rfl⟩
theorem d_Rch_reckon_5 : zd_k b_Rch_reckon "SameTuesday$Reach" 5 0 6 := Or.inl ⟨0, by decide +kernel, by decide, rfl⟩
theorem d_Rch_reckon_6 : zd_l .istore_n .istore b_Rch_reckon 6 1 7 := Or.inl ⟨1, rfl, by decide +kernel, rfl⟩
theorem d_Rch_reckon_7 : zd_l .iload_n .iload b_Rch_reckon 7 1 8 := Or.inl ⟨1, rfl, by decide +kernel, rfl⟩
theorem d_Rch_reckon_8 : zd_l .aload_n .aload b_Rch_reckon 8 0 9 := Or.inl ⟨0, rfl, by decide +kernel, rfl⟩
theorem d_Rch_reckon_9 : zd b_Rch_reckon 9 (.getfield 19) 3 12 := ⟨by decide +kernel, rfl⟩
theorem d_Rch_reckon_12 : zd b_Rch_reckon 12 .arraylength 1 13 := ⟨by decide +kernel, rfl⟩
theorem d_Rch_reckon_13 : zd_b b_Rch_reckon 13 (.if_icmp .ge) 16 29 := ⟨16, by decide +kernel, by decide, rfl⟩
theorem d_Rch_reckon_16 : zd_l .aload_n .aload b_Rch_reckon 16 0 17 := Or.inl ⟨0, rfl, by decide +kernel, rfl⟩
theorem d_Rch_reckon_17 : zd b_Rch_reckon 17 (.getfield 19) 3 20 := ⟨by decide +kernel, rfl⟩
theorem d_Rch_reckon_20 : zd_l .iload_n .iload b_Rch_reckon 20 1 21 := Or.inl ⟨1, rfl, by decide +kernel, rfl⟩
theorem d_Rch_reckon_21 : zd_kl b_Rch_reckon "SameTuesday$Reach" 21 0 22 := Or.inl ⟨0, by decide +kernel, by decide, rfl⟩
theorem d_Rch_reckon_22 : zd b_Rch_reckon 22 .lastore 1 23 := ⟨by decide +kernel, rfl⟩
theorem d_Rch_reckon_23 : zd_i b_Rch_reckon 23 1 1 1 26 := ⟨by decide +kernel, by decide, rfl⟩
theorem d_Rch_reckon_26 : zd_b b_Rch_reckon 26 .goto 29 7 := ⟨(-19), by decide +kernel, by decide, rfl⟩
theorem d_Rch_reckon_29 : zd_k b_Rch_reckon "SameTuesday$Reach" 29 0 30 := Or.inl ⟨0, by decide +kernel, by decide, rfl⟩
theorem d_Rch_reckon_30 : zd_l .istore_n .istore b_Rch_reckon 30 1 31 := Or.inl ⟨1, rfl, by decide +kernel, rfl⟩
theorem d_Rch_reckon_31 : zd_l .iload_n .iload b_Rch_reckon 31 1 32 := Or.inl ⟨1, rfl, by decide +kernel, rfl⟩
theorem d_Rch_reckon_32 : zd_l .aload_n .aload b_Rch_reckon 32 0 33 := Or.inl ⟨0, rfl, by decide +kernel, rfl⟩
theorem d_Rch_reckon_33 : zd b_Rch_reckon 33 (.getfield 9) 3 36 := ⟨by decide +kernel, rfl⟩
theorem d_Rch_reckon_36 : zd b_Rch_reckon 36 (.invokevirtual 43) 3 39 := ⟨by decide +kernel, rfl⟩
theorem d_Rch_reckon_39 : zd_b b_Rch_reckon 39 (.if_icmp .ge) 42 81 := ⟨42, by decide +kernel, by decide, rfl⟩
theorem d_Rch_reckon_42 : zd_l .iload_n .iload b_Rch_reckon 42 1 43 := Or.inl ⟨1, rfl, by decide +kernel, rfl⟩
theorem d_Rch_reckon_43 : zd_l .aload_n .aload b_Rch_reckon 43 0 44 := Or.inl ⟨0, rfl, by decide +kernel, rfl⟩
theorem d_Rch_reckon_44 : zd b_Rch_reckon 44 (.getfield 15) 3 47 := ⟨by decide +kernel, rfl⟩
theorem d_Rch_reckon_47 : zd b_Rch_reckon 47 .arraylength 1 48 := ⟨by decide +kernel, rfl⟩
theorem d_Rch_reckon_48 : zd_b b_Rch_reckon 48 (.if_icmp .ge) 51 81 := ⟨33, by decide +kernel, by decide, rfl⟩
theorem d_Rch_reckon_51 : zd_l .aload_n .aload b_Rch_reckon 51 0 52 := Or.inl ⟨0, rfl, by decide +kernel, rfl⟩
theorem d_Rch_reckon_52 : zd_l .iload_n .iload b_Rch_reckon 52 1 53 := Or.inl ⟨1, rfl, by decide +kernel, rfl⟩
theorem d_Rch_reckon_53 : zd b_Rch_reckon 53 (.invokevirtual 50) 3 56 := ⟨by decide +kernel, rfl⟩
theorem d_Rch_reckon_56 : zd_l .aload_n .aload b_Rch_reckon 56 0 57 := Or.inl ⟨0, rfl, by decide +kernel, rfl⟩
theorem d_Rch_reckon_57 : zd b_Rch_reckon 57 (.invokevirtual 54) 3 60 := ⟨by decide +kernel, rfl⟩
theorem d_Rch_reckon_60 : zd_l .aload_n .aload b_Rch_reckon 60 0 61 := Or.inl ⟨0, rfl, by decide +kernel, rfl⟩
theorem d_Rch_reckon_61 : zd_l .iload_n .iload b_Rch_reckon 61 1 62 := Or.inl ⟨1, rfl, by decide +kernel, rfl⟩
theorem d_Rch_reckon_62 : zd b_Rch_reckon 62 (.invokevirtual 57) 3 65 := ⟨by decide +kernel, rfl⟩
theorem d_Rch_reckon_65 : zd_l .aload_n .aload b_Rch_reckon 65 0 66 := Or.inl ⟨0, rfl, by decide +kernel, rfl⟩
theorem d_Rch_reckon_66 : zd b_Rch_reckon 66 (.getfield 15) 3 69 := ⟨by decide +kernel, rfl⟩
theorem d_Rch_reckon_69 : zd_l .iload_n .iload b_Rch_reckon 69 1 70 := Or.inl ⟨1, rfl, by decide +kernel, rfl⟩
theorem d_Rch_reckon_70 : zd_l .aload_n .aload b_Rch_reckon 70 0 71 := Or.inl ⟨0, rfl, by decide +kernel, rfl⟩
theorem d_Rch_reckon_71 : zd b_Rch_reckon 71 (.invokevirtual 60) 3 74 := ⟨by decide +kernel, rfl⟩
theorem d_Rch_reckon_74 : zd b_Rch_reckon 74 .lastore 1 75 := ⟨by decide +kernel, rfl⟩
theorem d_Rch_reckon_75 : zd_i b_Rch_reckon 75 1 1 1 78 := ⟨by decide +kernel, by decide, rfl⟩
theorem d_Rch_reckon_78 : zd_b b_Rch_reckon 78 .goto 81 31 := ⟨(-47), by decide +kernel, by decide, rfl⟩
theorem d_Rch_reckon_81 : zd b_Rch_reckon 81 .return_ 1 82 := ⟨by decide +kernel, rfl⟩
theorem d_Rch_passHappenings_0 : zd_l .aload_n .aload b_Rch_passHappenings 0 0 1 := Or.inl ⟨0, rfl, by decide +kernel, rfl⟩
theorem d_Rch_passHappenings_1 : zd_l .aload_n .aload b_Rch_passHappenings 1 0 2 := Or.inl ⟨0, rfl, by decide +kernel, rfl⟩
theorem d_Rch_passHappenings_2 : zd b_Rch_passHappenings 2 (.getfield 9) 3 5 := ⟨by decide +kernel, rfl⟩
theorem d_Rch_passHappenings_5 : zd_l .iload_n .iload b_Rch_passHappenings 5 1 6 := Or.inl ⟨1, rfl, by decide +kernel, rfl⟩
theorem d_Rch_passHappenings_6 : zd_l .aload_n .aload b_Rch_passHappenings 6 0 7 := Or.inl ⟨0, rfl, by decide +kernel, rfl⟩
theorem d_Rch_passHappenings_7 : zd b_Rch_passHappenings 7 (.getfield 22) 3 10 := ⟨by decide +kernel, rfl⟩
theorem d_Rch_passHappenings_10 : zd_k b_Rch_passHappenings "SameTuesday$Reach" 10 63 12 := Or.inr (Or.inl ⟨63, by decide +kernel, by decide, rfl⟩)
theorem d_Rch_passHappenings_12 : zd b_Rch_passHappenings 12 (.invokevirtual 64) 3 15 := ⟨by decide +kernel, rfl⟩
theorem d_Rch_passHappenings_15 : zd b_Rch_passHappenings 15 (.putfield 22) 3 18 := ⟨by decide +kernel, rfl⟩
theorem d_Rch_passHappenings_18 : zd_k b_Rch_passHappenings "SameTuesday$Reach" 18 0 19 := Or.inl ⟨0, by decide +kernel, by decide, rfl⟩
theorem d_Rch_passHappenings_19 : zd_l .istore_n .istore b_Rch_passHappenings 19 2 20 := Or.inl ⟨2, rfl, by decide +kernel, rfl⟩
theorem d_Rch_passHappenings_20 : zd_l .iload_n .iload b_Rch_passHappenings 20 2 21 := Or.inl ⟨2, rfl, by decide +kernel, rfl⟩
theorem d_Rch_passHappenings_21 : zd_l .aload_n .aload b_Rch_passHappenings 21 0 22 := Or.inl ⟨0, rfl, by decide +kernel, rfl⟩
theorem d_Rch_passHappenings_22 : zd b_Rch_passHappenings 22 (.getfield 19) 3 25 := ⟨by decide +kernel, rfl⟩
theorem d_Rch_passHappenings_25 : zd b_Rch_passHappenings 25 .arraylength 1 26 := ⟨by decide +kernel, rfl⟩
theorem d_Rch_passHappenings_26 : zd_b b_Rch_passHappenings 26 (.if_icmp .ge) 29 57 := ⟨31, by decide +kernel, by decide, rfl⟩
theorem d_Rch_passHappenings_29 : zd_l .aload_n .aload b_Rch_passHappenings 29 0 30 := Or.inl ⟨0, rfl, by decide +kernel, rfl⟩
theorem d_Rch_passHappenings_30 : zd b_Rch_passHappenings 30 (.getfield 19) 3 33 := ⟨by decide +kernel, rfl⟩
theorem d_Rch_passHappenings_33 : zd_l .iload_n .iload b_Rch_passHappenings 33 2 34 := Or.inl ⟨2, rfl, by decide +kernel, rfl⟩
theorem d_Rch_passHappenings_34 : zd_l .aload_n .aload b_Rch_passHappenings 34 0 35 := Or.inl ⟨0, rfl, by decide +kernel, rfl⟩
theorem d_Rch_passHappenings_35 : zd b_Rch_passHappenings 35 (.getfield 9) 3 38 := ⟨by decide +kernel, rfl⟩
theorem d_Rch_passHappenings_38 : zd_l .iload_n .iload b_Rch_passHappenings 38 1 39 := Or.inl ⟨1, rfl, by decide +kernel, rfl⟩
theorem d_Rch_passHappenings_39 : zd_l .aload_n .aload b_Rch_passHappenings 39 0 40 := Or.inl ⟨0, rfl, by decide +kernel, rfl⟩
theorem d_Rch_passHappenings_40 : zd b_Rch_passHappenings 40 (.getfield 19) 3 43 := ⟨by decide +kernel, rfl⟩
theorem d_Rch_passHappenings_43 : zd_l .iload_n .iload b_Rch_passHappenings 43 2 44 := Or.inl ⟨2, rfl, by decide +kernel, rfl⟩
theorem d_Rch_passHappenings_44 : zd b_Rch_passHappenings 44 .laload 1 45 := ⟨by decide +kernel, rfl⟩
theorem d_Rch_passHappenings_45 : zd_k b_Rch_passHappenings "SameTuesday$Reach" 45 63 47 := Or.inr (Or.inl ⟨63, by decide +kernel, by decide, rfl⟩)
theorem d_Rch_passHappenings_47 : zd b_Rch_passHappenings 47 (.invokevirtual 64) 3 50 := ⟨by decide +kernel, rfl⟩
theorem d_Rch_passHappenings_50 : zd b_Rch_passHappenings 50 .lastore 1 51 := ⟨by decide +kernel, rfl⟩
theorem d_Rch_passHappenings_51 : zd_i b_Rch_passHappenings 51 2 1 1 54 := ⟨by decide +kernel, by decide, rfl⟩
theorem d_Rch_passHappenings_54 : zd_b b_Rch_passHappenings 54 .goto 57 20 := ⟨(-34), by decide +kernel, by decide, rfl⟩
theorem d_Rch_passHappenings_57 : zd b_Rch_passHappenings 57 .return_ 1 58 := ⟨by decide +kernel, rfl⟩
theorem d_Rch_endDeeds_0 : zd_k b_Rch_endDeeds "SameTuesday$Reach" 0 0 1 := Or.inl ⟨0, by decide +kernel, by decide, rfl⟩
theorem d_Rch_endDeeds_1 : zd_l .istore_n .istore b_Rch_endDeeds 1 1 2 := Or.inl ⟨1, rfl, by decide +kernel, rfl⟩
theorem d_Rch_endDeeds_2 : zd_l .iload_n .iload b_Rch_endDeeds 2 1 3 := Or.inl ⟨1, rfl, by decide +kernel, rfl⟩
theorem d_Rch_endDeeds_3 : zd_k b_Rch_endDeeds "SameTuesday$Reach" 3 5 4 := Or.inl ⟨5, by decide +kernel, by decide, rfl⟩
theorem d_Rch_endDeeds_4 : zd_b b_Rch_endDeeds 4 (.if_icmp .ge) 7 82 := ⟨78, by decide +kernel, by decide, rfl⟩
theorem d_Rch_endDeeds_7 : zd_l .aload_n .aload b_Rch_endDeeds 7 0 8 := Or.inl ⟨0, rfl, by decide +kernel, rfl⟩
theorem d_Rch_endDeeds_8 : zd b_Rch_endDeeds 8 (.getfield 9) 3 11 := ⟨by decide +kernel, rfl⟩
theorem d_Rch_endDeeds_11 : zd_l .iload_n .iload b_Rch_endDeeds 11 1 12 := Or.inl ⟨1, rfl, by decide +kernel, rfl⟩
theorem d_Rch_endDeeds_12 : zd b_Rch_endDeeds 12 (.invokevirtual 68) 3 15 := ⟨by decide +kernel, rfl⟩
theorem d_Rch_endDeeds_15 : zd_l .astore_n .astore b_Rch_endDeeds 15 2 16 := Or.inl ⟨2, rfl, by decide +kernel, rfl⟩
theorem d_Rch_endDeeds_16 : zd_k b_Rch_endDeeds "SameTuesday$Reach" 16 10 18 := Or.inr (Or.inl ⟨10, by decide +kernel, by decide, rfl⟩)
theorem d_Rch_endDeeds_18 : zd_l .iload_n .iload b_Rch_endDeeds 18 1 19 := Or.inl ⟨1, rfl, by decide +kernel, rfl⟩
theorem d_Rch_endDeeds_19 : zd b_Rch_endDeeds 19 .imul 1 20 := ⟨by decide +kernel, rfl⟩
theorem d_Rch_endDeeds_20 : zd_k b_Rch_endDeeds "SameTuesday$Reach" 20 1 21 := Or.inl ⟨1, by decide +kernel, by decide, rfl⟩
theorem d_Rch_endDeeds_21 : zd b_Rch_endDeeds 21 .iadd 1 22 := ⟨by decide +kernel, rfl⟩
theorem d_Rch_endDeeds_22 : zd_l .istore_n .istore b_Rch_endDeeds 22 3 23 := Or.inl ⟨3, rfl, by decide +kernel, rfl⟩
theorem d_Rch_endDeeds_23 : zd_l .aload_n .aload b_Rch_endDeeds 23 2 24 := Or.inl ⟨2, rfl, by decide +kernel, rfl⟩
theorem d_Rch_endDeeds_24 : zd_b b_Rch_endDeeds 24 .ifnull 27 46 := ⟨22, by decide +kernel, by decide, rfl⟩
theorem d_Rch_endDeeds_27 : zd_l .aload_n .aload b_Rch_endDeeds 27 0 28 := Or.inl ⟨0, rfl, by decide +kernel, rfl⟩
theorem d_Rch_endDeeds_28 : zd b_Rch_endDeeds 28 .dup 1 29 := ⟨by decide +kernel, rfl⟩
theorem d_Rch_endDeeds_29 : zd b_Rch_endDeeds 29 (.getfield 22) 3 32 := ⟨by decide +kernel, rfl⟩
theorem d_Rch_endDeeds_32 : zd_l .aload_n .aload b_Rch_endDeeds 32 2 33 := Or.inl ⟨2, rfl, by decide +kernel, rfl⟩
theorem d_Rch_endDeeds_33 : zd_l .aload_n .aload b_Rch_endDeeds 33 0 34 := Or.inl ⟨0, rfl, by decide +kernel, rfl⟩
theorem d_Rch_endDeeds_34 : zd b_Rch_endDeeds 34 (.getfield 19) 3 37 := ⟨by decide +kernel, rfl⟩
theorem d_Rch_endDeeds_37 : zd_l .iload_n .iload b_Rch_endDeeds 37 3 38 := Or.inl ⟨3, rfl, by decide +kernel, rfl⟩
theorem d_Rch_endDeeds_38 : zd b_Rch_endDeeds 38 .laload 1 39 := ⟨by decide +kernel, rfl⟩
theorem d_Rch_endDeeds_39 : zd b_Rch_endDeeds 39 (.invokevirtual 72) 3 42 := ⟨by decide +kernel, rfl⟩
theorem d_Rch_endDeeds_42 : zd b_Rch_endDeeds 42 .lor 1 43 := ⟨by decide +kernel, rfl⟩
theorem d_Rch_endDeeds_43 : zd b_Rch_endDeeds 43 (.putfield 22) 3 46 := ⟨by decide +kernel, rfl⟩
theorem d_Rch_endDeeds_46 : zd_l .aload_n .aload b_Rch_endDeeds 46 0 47 := Or.inl ⟨0, rfl, by decide +kernel, rfl⟩
theorem d_Rch_endDeeds_47 : zd b_Rch_endDeeds 47 (.getfield 19) 3 50 := ⟨by decide +kernel, rfl⟩
theorem d_Rch_endDeeds_50 : zd_l .iload_n .iload b_Rch_endDeeds 50 3 51 := Or.inl ⟨3, rfl, by decide +kernel, rfl⟩
theorem d_Rch_endDeeds_51 : zd_k b_Rch_endDeeds "SameTuesday$Reach" 51 1 52 := Or.inl ⟨1, by decide +kernel, by decide, rfl⟩
theorem d_Rch_endDeeds_52 : zd b_Rch_endDeeds 52 .iadd 1 53 := ⟨by decide +kernel, rfl⟩
theorem d_Rch_endDeeds_53 : zd_l .aload_n .aload b_Rch_endDeeds 53 0 54 := Or.inl ⟨0, rfl, by decide +kernel, rfl⟩
theorem d_Rch_endDeeds_54 : zd b_Rch_endDeeds 54 (.getfield 19) 3 57 := ⟨by decide +kernel, rfl⟩
theorem d_Rch_endDeeds_57 : zd_l .iload_n .iload b_Rch_endDeeds 57 3 58 := Or.inl ⟨3, rfl, by decide +kernel, rfl⟩
theorem d_Rch_endDeeds_58 : zd_k b_Rch_endDeeds "SameTuesday$Reach" 58 8 60 := Or.inr (Or.inl ⟨8, by decide +kernel, by decide, rfl⟩)
theorem d_Rch_endDeeds_60 : zd b_Rch_endDeeds 60 (.invokestatic 78) 3 63 := ⟨by decide +kernel, rfl⟩
theorem d_Rch_endDeeds_63 : zd_l .aload_n .aload b_Rch_endDeeds 63 0 64 := Or.inl ⟨0, rfl, by decide +kernel, rfl⟩
theorem d_Rch_endDeeds_64 : zd b_Rch_endDeeds 64 (.getfield 19) 3 67 := ⟨by decide +kernel, rfl⟩
theorem d_Rch_endDeeds_67 : zd_k b_Rch_endDeeds "SameTuesday$Reach" 67 10 69 := Or.inr (Or.inl ⟨10, by decide +kernel, by decide, rfl⟩)
theorem d_Rch_endDeeds_69 : zd_l .iload_n .iload b_Rch_endDeeds 69 1 70 := Or.inl ⟨1, rfl, by decide +kernel, rfl⟩
theorem d_Rch_endDeeds_70 : zd b_Rch_endDeeds 70 .imul 1 71 := ⟨by decide +kernel, rfl⟩
theorem d_Rch_endDeeds_71 : zd_k b_Rch_endDeeds "SameTuesday$Reach" 71 9 73 := Or.inr (Or.inl ⟨9, by decide +kernel, by decide, rfl⟩)
theorem d_Rch_endDeeds_73 : zd b_Rch_endDeeds 73 .iadd 1 74 := ⟨by decide +kernel, rfl⟩
theorem d_Rch_endDeeds_74 : zd_kl b_Rch_endDeeds "SameTuesday$Reach" 74 0 75 := Or.inl ⟨0, by decide +kernel, by decide, rfl⟩
theorem d_Rch_endDeeds_75 : zd b_Rch_endDeeds 75 .lastore 1 76 := ⟨by decide +kernel, rfl⟩
theorem d_Rch_endDeeds_76 : zd_i b_Rch_endDeeds 76 1 1 1 79 := ⟨by decide +kernel, by decide, rfl⟩
theorem d_Rch_endDeeds_79 : zd_b b_Rch_endDeeds 79 .goto 82 2 := ⟨(-77), by decide +kernel, by decide, rfl⟩
theorem d_Rch_endDeeds_82 : zd b_Rch_endDeeds 82 .return_ 1 83 := ⟨by decide +kernel, rfl⟩
theorem d_Rch_beginDeeds_0 : zd_k b_Rch_beginDeeds "SameTuesday$Reach" 0 0 1 := Or.inl ⟨0, by decide +kernel, by decide, rfl⟩
theorem d_Rch_beginDeeds_1 : zd_l .istore_n .istore b_Rch_beginDeeds 1 2 2 := Or.inl ⟨2, rfl, by decide +kernel, rfl⟩
theorem d_Rch_beginDeeds_2 : zd_l .iload_n .iload b_Rch_beginDeeds 2 2 3 := Or.inl ⟨2, rfl, by decide +kernel, rfl⟩
theorem d_Rch_beginDeeds_3 : zd_k b_Rch_beginDeeds "SameTuesday$Reach" 3 5 4 := Or.inl ⟨5, by decide +kernel, by decide, rfl⟩
theorem d_Rch_beginDeeds_4 : zd_b b_Rch_beginDeeds 4 (.if_icmp .ge) 7 72 := ⟨68, by decide +kernel, by decide, rfl⟩
theorem d_Rch_beginDeeds_7 : zd_l .aload_n .aload b_Rch_beginDeeds 7 0 8 := Or.inl ⟨0, rfl, by decide +kernel, rfl⟩
theorem d_Rch_beginDeeds_8 : zd b_Rch_beginDeeds 8 (.getfield 9) 3 11 := ⟨by decide +kernel, rfl⟩
theorem d_Rch_beginDeeds_11 : zd_l .iload_n .iload b_Rch_beginDeeds 11 2 12 := Or.inl ⟨2, rfl, by decide +kernel, rfl⟩
theorem d_Rch_beginDeeds_12 : zd b_Rch_beginDeeds 12 (.invokevirtual 68) 3 15 := ⟨by decide +kernel, rfl⟩
theorem d_Rch_beginDeeds_15 : zd_l .astore_n .astore b_Rch_beginDeeds 15 3 16 := Or.inl ⟨3, rfl, by decide +kernel, rfl⟩
theorem d_Rch_beginDeeds_16 : zd_l .aload_n .aload b_Rch_beginDeeds 16 3 17 := Or.inl ⟨3, rfl, by decide +kernel, rfl⟩
theorem d_Rch_beginDeeds_17 : zd_b b_Rch_beginDeeds 17 .ifnull 20 66 := ⟨49, by decide +kernel, by decide, rfl⟩
theorem d_Rch_beginDeeds_20 : zd_l .aload_n .aload b_Rch_beginDeeds 20 3 21 := Or.inl ⟨3, rfl, by decide +kernel, rfl⟩
theorem d_Rch_beginDeeds_21 : zd b_Rch_beginDeeds 21 (.getfield 84) 3 24 := ⟨by decide +kernel, rfl⟩
theorem d_Rch_beginDeeds_24 : zd_b b_Rch_beginDeeds 24 (.ifCond .le) 27 66 := ⟨42, by decide +kernel, by decide, rfl⟩
theorem d_Rch_beginDeeds_27 : zd_l .aload_n .aload b_Rch_beginDeeds 27 3 28 := Or.inl ⟨3, rfl, by decide +kernel, rfl⟩
theorem d_Rch_beginDeeds_28 : zd b_Rch_beginDeeds 28 (.getfield 84) 3 31 := ⟨by decide +kernel, rfl⟩
theorem d_Rch_beginDeeds_31 : zd_k b_Rch_beginDeeds "SameTuesday$Reach" 31 10 33 := Or.inr (Or.inl ⟨10, by decide +kernel, by decide, rfl⟩)
theorem d_Rch_beginDeeds_33 : zd_b b_Rch_beginDeeds 33 (.if_icmp .ge) 36 66 := ⟨33, by decide +kernel, by decide, rfl⟩
theorem d_Rch_beginDeeds_36 : zd_l .aload_n .aload b_Rch_beginDeeds 36 0 37 := Or.inl ⟨0, rfl, by decide +kernel, rfl⟩
theorem d_Rch_beginDeeds_37 : zd b_Rch_beginDeeds 37 (.getfield 19) 3 40 := ⟨by decide +kernel, rfl⟩
theorem d_Rch_beginDeeds_40 : zd_k b_Rch_beginDeeds "SameTuesday$Reach" 40 10 42 := Or.inr (Or.inl ⟨10, by decide +kernel, by decide, rfl⟩)
theorem d_Rch_beginDeeds_42 : zd_l .iload_n .iload b_Rch_beginDeeds 42 2 43 := Or.inl ⟨2, rfl, by decide +kernel, rfl⟩
theorem d_Rch_beginDeeds_43 : zd b_Rch_beginDeeds 43 .imul 1 44 := ⟨by decide +kernel, rfl⟩
theorem d_Rch_beginDeeds_44 : zd_l .aload_n .aload b_Rch_beginDeeds 44 3 45 := Or.inl ⟨3, rfl, by decide +kernel, rfl⟩
theorem d_Rch_beginDeeds_45 : zd b_Rch_beginDeeds 45 (.getfield 84) 3 48 := ⟨by decide +kernel, rfl⟩
theorem d_Rch_beginDeeds_48 : zd b_Rch_beginDeeds 48 .iadd 1 49 := ⟨by decide +kernel, rfl⟩
theorem d_Rch_beginDeeds_49 : zd b_Rch_beginDeeds 49 .dup2 1 50 := ⟨by decide +kernel, rfl⟩
theorem d_Rch_beginDeeds_50 : zd b_Rch_beginDeeds 50 .laload 1 51 := ⟨by decide +kernel, rfl⟩
theorem d_Rch_beginDeeds_51 : zd_l .aload_n .aload b_Rch_beginDeeds 51 0 52 := Or.inl ⟨0, rfl, by decide +kernel, rfl⟩
theorem d_Rch_beginDeeds_52 : zd b_Rch_beginDeeds 52 (.getfield 9) 3 55 := ⟨by decide +kernel, rfl⟩
theorem d_Rch_beginDeeds_55 : zd_l .aload_n .aload b_Rch_beginDeeds 55 3 56 := Or.inl ⟨3, rfl, by decide +kernel, rfl⟩
theorem d_Rch_beginDeeds_56 : zd_l .iload_n .iload b_Rch_beginDeeds 56 1 57 := Or.inl ⟨1, rfl, by decide +kernel, rfl⟩
theorem d_Rch_beginDeeds_57 : zd_l .aload_n .aload b_Rch_beginDeeds 57 0 58 := Or.inl ⟨0, rfl, by decide +kernel, rfl⟩
theorem d_Rch_beginDeeds_58 : zd b_Rch_beginDeeds 58 (.getfield 22) 3 61 := ⟨by decide +kernel, rfl⟩
theorem d_Rch_beginDeeds_61 : zd b_Rch_beginDeeds 61 (.invokevirtual 88) 3 64 := ⟨by decide +kernel, rfl⟩
theorem d_Rch_beginDeeds_64 : zd b_Rch_beginDeeds 64 .lor 1 65 := ⟨by decide +kernel, rfl⟩
theorem d_Rch_beginDeeds_65 : zd b_Rch_beginDeeds 65 .lastore 1 66 := ⟨by decide +kernel, rfl⟩
theorem d_Rch_beginDeeds_66 : zd_i b_Rch_beginDeeds 66 2 1 1 69 := ⟨by decide +kernel, by decide, rfl⟩
theorem d_Rch_beginDeeds_69 : zd_b b_Rch_beginDeeds 69 .goto 72 2 := ⟨(-67), by decide +kernel, by decide, rfl⟩
theorem d_Rch_beginDeeds_72 : zd b_Rch_beginDeeds 72 .return_ 1 73 := ⟨by decide +kernel, rfl⟩
theorem d_Rch_everyWorld_0 : zd_l .aload_n .aload b_Rch_everyWorld 0 0 1 := Or.inl ⟨0, rfl, by decide +kernel, rfl⟩
theorem d_Rch_everyWorld_1 : zd b_Rch_everyWorld 1 (.getfield 22) 3 4 := ⟨by decide +kernel, rfl⟩
theorem d_Rch_everyWorld_4 : zd_l .lstore_n .lstore b_Rch_everyWorld 4 1 5 := Or.inl ⟨1, rfl, by decide +kernel, rfl⟩
theorem d_Rch_everyWorld_5 : zd_k b_Rch_everyWorld "SameTuesday$Reach" 5 0 6 := Or.inl ⟨0, by decide +kernel, by decide, rfl⟩
theorem d_Rch_everyWorld_6 : zd_l .istore_n .istore b_Rch_everyWorld 6 3 7 := Or.inl ⟨3, rfl, by decide +kernel, rfl⟩
theorem d_Rch_everyWorld_7 : zd_l .iload_n .iload b_Rch_everyWorld 7 3 8 := Or.inl ⟨3, rfl, by decide +kernel, rfl⟩
theorem d_Rch_everyWorld_8 : zd_l .aload_n .aload b_Rch_everyWorld 8 0 9 := Or.inl ⟨0, rfl, by decide +kernel, rfl⟩
theorem d_Rch_everyWorld_9 : zd b_Rch_everyWorld 9 (.getfield 19) 3 12 := ⟨by decide +kernel, rfl⟩
theorem d_Rch_everyWorld_12 : zd b_Rch_everyWorld 12 .arraylength 1 13 := ⟨by decide +kernel, rfl⟩
theorem d_Rch_everyWorld_13 : zd_b b_Rch_everyWorld 13 (.if_icmp .ge) 16 31 := ⟨18, by decide +kernel, by decide, rfl⟩
theorem d_Rch_everyWorld_16 : zd_l .lload_n .lload b_Rch_everyWorld 16 1 17 := Or.inl ⟨1, rfl, by decide +kernel, rfl⟩
theorem d_Rch_everyWorld_17 : zd_l .aload_n .aload b_Rch_everyWorld 17 0 18 := Or.inl ⟨0, rfl, by decide +kernel, rfl⟩
theorem d_Rch_everyWorld_18 : zd b_Rch_everyWorld 18 (.getfield 19) 3 21 := ⟨by decide +kernel, rfl⟩
theorem d_Rch_everyWorld_21 : zd_l .iload_n .iload b_Rch_everyWorld 21 3 22 := Or.inl ⟨3, rfl, by decide +kernel, rfl⟩
theorem d_Rch_everyWorld_22 : zd b_Rch_everyWorld 22 .laload 1 23 := ⟨by decide +kernel, rfl⟩
theorem d_Rch_everyWorld_23 : zd b_Rch_everyWorld 23 .lor 1 24 := ⟨by decide +kernel, rfl⟩
theorem d_Rch_everyWorld_24 : zd_l .lstore_n .lstore b_Rch_everyWorld 24 1 25 := Or.inl ⟨1, rfl, by decide +kernel, rfl⟩
theorem d_Rch_everyWorld_25 : zd_i b_Rch_everyWorld 25 3 1 1 28 := ⟨by decide +kernel, by decide, rfl⟩
theorem d_Rch_everyWorld_28 : zd_b b_Rch_everyWorld 28 .goto 31 7 := ⟨(-21), by decide +kernel, by decide, rfl⟩
theorem d_Rch_everyWorld_31 : zd_l .lload_n .lload b_Rch_everyWorld 31 1 32 := Or.inl ⟨1, rfl, by decide +kernel, rfl⟩
theorem d_Rch_everyWorld_32 : zd b_Rch_everyWorld 32 .lreturn 1 33 := ⟨by decide +kernel, rfl⟩
set_option maxRecDepth 20000 in
theorem f_Sht_9_7 : zb_FL "SameTuesday$Sheet" 9 7 0 := ⟨"SameTuesday$Sheet", zF_Sht, 3, "SameTuesday$Sheet", rfl, by decide, zi_Sht, zb_mem 82 rfl rfl, Or.inl rfl⟩
set_option maxRecDepth 20000 in
theorem p_Sht_9_7 : zb_PF "SameTuesday$Sheet" 9 7 0 (.array .int) := ⟨"SameTuesday$Sheet", zF_Sht, 3, "SameTuesday$Sheet", zt_Sht, rfl, by decide, zi_Sht, zb_mem 82 rfl rfl, Or.inl rfl, zk_Sht, zn_Sht, rfl, rfl, rfl⟩
set_option maxRecDepth 20000 in
theorem f_Sht_15_7 : zb_FL "SameTuesday$Sheet" 15 7 1 := ⟨"SameTuesday$Sheet", zF_Sht, 3, "SameTuesday$Sheet", rfl, by decide, zi_Sht, zb_mem 83 rfl rfl, Or.inl rfl⟩
set_option maxRecDepth 20000 in
theorem p_Sht_15_7 : zb_PL "SameTuesday$Sheet" 15 7 1 .int := ⟨"SameTuesday$Sheet", zF_Sht, 3, "SameTuesday$Sheet", zt_Sht, rfl, by decide, zi_Sht, zb_mem 83 rfl rfl, Or.inl rfl, zk_Sht, zn_Sht, rfl, rfl⟩
set_option maxRecDepth 20000 in
theorem f_Sht_19_7 : zb_FL "SameTuesday$Sheet" 19 7 2 := ⟨"SameTuesday$Sheet", zF_Sht, 3, "SameTuesday$Sheet", rfl, by decide, zi_Sht, zb_mem 84 rfl rfl, Or.inl rfl⟩
set_option maxRecDepth 20000 in
theorem p_Sht_19_7 : zb_PL "SameTuesday$Sheet" 19 7 2 .int := ⟨"SameTuesday$Sheet", zF_Sht, 3, "SameTuesday$Sheet", zt_Sht, rfl, by decide, zi_Sht, zb_mem 84 rfl rfl, Or.inl rfl, zk_Sht, zn_Sht, rfl, rfl⟩
set_option maxRecDepth 20000 in
theorem l_Sht_31 : zl_V "SameTuesday$Sheet" 31 y_Sht_holds b_Sht_holds 3 (some .boolean) 2 := ⟨⟨zb_mem 830 rfl rfl, zb_mem 51 rfl rfl, zb_mem 263 rfl rfl, by decide, by decide +kernel⟩, zb_mem 261 rfl rfl, zb_mem 262 rfl rfl⟩
theorem d_Sht_init_0 : zd_l .aload_n .aload b_Sht_init 0 0 1 := Or.inl ⟨0, rfl, by decide +kernel, rfl⟩
theorem d_Sht_init_1 : zd b_Sht_init 1 (.invokespecial 3) 3 4 := ⟨by decide +kernel, rfl⟩
theorem d_Sht_init_4 : zd_l .aload_n .aload b_Sht_init 4 0 5 := Or.inl ⟨0, rfl, by decide +kernel, rfl⟩
theorem d_Sht_init_5 : zd_k b_Sht_init "SameTuesday$Sheet" 5 60 7 := Or.inr (Or.inl ⟨60, by decide +kernel, by decide, rfl⟩)
theorem d_Sht_init_7 : zd b_Sht_init 7 (.newarray .int) 2 9 := ⟨by decide +kernel, rfl⟩
theorem d_Sht_init_9 : zd b_Sht_init 9 (.putfield 9) 3 12 := ⟨by decide +kernel, rfl⟩
theorem d_Sht_init_12 : zd_l .aload_n .aload b_Sht_init 12 0 13 := Or.inl ⟨0, rfl, by decide +kernel, rfl⟩
theorem d_Sht_init_13 : zd_k b_Sht_init "SameTuesday$Sheet" 13 (-1) 14 := Or.inl ⟨(-1), by decide +kernel, by decide, rfl⟩
theorem d_Sht_init_14 : zd b_Sht_init 14 (.putfield 15) 3 17 := ⟨by decide +kernel, rfl⟩
theorem d_Sht_init_17 : zd_l .aload_n .aload b_Sht_init 17 0 18 := Or.inl ⟨0, rfl, by decide +kernel, rfl⟩
theorem d_Sht_init_18 : zd_k b_Sht_init "SameTuesday$Sheet" 18 0 19 := Or.inl ⟨0, by decide +kernel, by decide, rfl⟩
theorem d_Sht_init_19 : zd b_Sht_init 19 (.putfield 19) 3 22 := ⟨by decide +kernel, rfl⟩
theorem d_Sht_init_22 : zd b_Sht_init 22 .return_ 1 23 := ⟨by decide +kernel, rfl⟩
theorem d_Sht_hasNothing_0 : zd_l .aload_n .aload b_Sht_hasNothing 0 0 1 := Or.inl ⟨0, rfl, by decide +kernel, rfl⟩
theorem d_Sht_hasNothing_1 : zd b_Sht_hasNothing 1 (.getfield 15) 3 4 := ⟨by decide +kernel, rfl⟩
theorem d_Sht_hasNothing_4 : zd_k b_Sht_hasNothing "SameTuesday$Sheet" 4 (-1) 5 := Or.inl ⟨(-1), by decide +kernel, by decide, rfl⟩
theorem d_Sht_hasNothing_5 : zd_b b_Sht_hasNothing 5 (.if_icmp .ne) 8 12 := ⟨7, by decide +kernel, by decide, rfl⟩
theorem d_Sht_hasNothing_8 : zd_k b_Sht_hasNothing "SameTuesday$Sheet" 8 1 9 := Or.inl ⟨1, by decide +kernel, by decide, rfl⟩
theorem d_Sht_hasNothing_9 : zd_b b_Sht_hasNothing 9 .goto 12 13 := ⟨4, by decide +kernel, by decide, rfl⟩
theorem d_Sht_hasNothing_12 : zd_k b_Sht_hasNothing "SameTuesday$Sheet" 12 0 13 := Or.inl ⟨0, by decide +kernel, by decide, rfl⟩
theorem d_Sht_hasNothing_13 : zd b_Sht_hasNothing 13 .ireturn 1 14 := ⟨by decide +kernel, rfl⟩
theorem d_Sht_isOf_0 : zd_l .aload_n .aload b_Sht_isOf 0 0 1 := Or.inl ⟨0, rfl, by decide +kernel, rfl⟩
theorem d_Sht_isOf_1 : zd b_Sht_isOf 1 (.getfield 15) 3 4 := ⟨by decide +kernel, rfl⟩
theorem d_Sht_isOf_4 : zd_l .iload_n .iload b_Sht_isOf 4 1 5 := Or.inl ⟨1, rfl, by decide +kernel, rfl⟩
theorem d_Sht_isOf_5 : zd_b b_Sht_isOf 5 (.if_icmp .ne) 8 12 := ⟨7, by decide +kernel, by decide, rfl⟩
theorem d_Sht_isOf_8 : zd_k b_Sht_isOf "SameTuesday$Sheet" 8 1 9 := Or.inl ⟨1, by decide +kernel, by decide, rfl⟩
theorem d_Sht_isOf_9 : zd_b b_Sht_isOf 9 .goto 12 13 := ⟨4, by decide +kernel, by decide, rfl⟩
theorem d_Sht_isOf_12 : zd_k b_Sht_isOf "SameTuesday$Sheet" 12 0 13 := Or.inl ⟨0, by decide +kernel, by decide, rfl⟩
theorem d_Sht_isOf_13 : zd b_Sht_isOf 13 .ireturn 1 14 := ⟨by decide +kernel, rfl⟩
theorem d_Sht_isLike_0 : zd_l .aload_n .aload b_Sht_isLike 0 0 1 := Or.inl ⟨0, rfl, by decide +kernel, rfl⟩
theorem d_Sht_isLike_1 : zd b_Sht_isLike 1 (.getfield 15) 3 4 := ⟨by decide +kernel, rfl⟩
theorem d_Sht_isLike_4 : zd_l .aload_n .aload b_Sht_isLike 4 1 5 := Or.inl ⟨1, rfl, by decide +kernel, rfl⟩
theorem d_Sht_isLike_5 : zd b_Sht_isLike 5 (.getfield 15) 3 8 := ⟨by decide +kernel, rfl⟩
theorem d_Sht_isLike_8 : zd_b b_Sht_isLike 8 (.if_icmp .ne) 11 15 := ⟨7, by decide +kernel, by decide, rfl⟩
theorem d_Sht_isLike_11 : zd_k b_Sht_isLike "SameTuesday$Sheet" 11 1 12 := Or.inl ⟨1, by decide +kernel, by decide, rfl⟩
theorem d_Sht_isLike_12 : zd_b b_Sht_isLike 12 .goto 15 16 := ⟨4, by decide +kernel, by decide, rfl⟩
theorem d_Sht_isLike_15 : zd_k b_Sht_isLike "SameTuesday$Sheet" 15 0 16 := Or.inl ⟨0, by decide +kernel, by decide, rfl⟩
theorem d_Sht_isLike_16 : zd b_Sht_isLike 16 .ireturn 1 17 := ⟨by decide +kernel, rfl⟩
theorem d_Sht_renew_0 : zd_l .aload_n .aload b_Sht_renew 0 0 1 := Or.inl ⟨0, rfl, by decide +kernel, rfl⟩
theorem d_Sht_renew_1 : zd_l .iload_n .iload b_Sht_renew 1 1 2 := Or.inl ⟨1, rfl, by decide +kernel, rfl⟩
theorem d_Sht_renew_2 : zd b_Sht_renew 2 (.putfield 15) 3 5 := ⟨by decide +kernel, rfl⟩
theorem d_Sht_renew_5 : zd_l .aload_n .aload b_Sht_renew 5 0 6 := Or.inl ⟨0, rfl, by decide +kernel, rfl⟩
theorem d_Sht_renew_6 : zd_k b_Sht_renew "SameTuesday$Sheet" 6 0 7 := Or.inl ⟨0, by decide +kernel, by decide, rfl⟩
theorem d_Sht_renew_7 : zd_l .iload_n .iload b_Sht_renew 7 2 8 := Or.inl ⟨2, rfl, by decide +kernel, rfl⟩
theorem d_Sht_renew_8 : zd_l .aload_n .aload b_Sht_renew 8 0 9 := Or.inl ⟨0, rfl, by decide +kernel, rfl⟩
theorem d_Sht_renew_9 : zd b_Sht_renew 9 (.getfield 9) 3 12 := ⟨by decide +kernel, rfl⟩
theorem d_Sht_renew_12 : zd b_Sht_renew 12 .arraylength 1 13 := ⟨by decide +kernel, rfl⟩
theorem d_Sht_renew_13 : zd b_Sht_renew 13 (.invokestatic 22) 3 16 := ⟨by decide +kernel, rfl⟩
theorem d_Sht_renew_16 : zd b_Sht_renew 16 (.invokestatic 28) 3 19 := ⟨by decide +kernel, rfl⟩
theorem d_Sht_renew_19 : zd b_Sht_renew 19 (.putfield 19) 3 22 := ⟨by decide +kernel, rfl⟩
theorem d_Sht_renew_22 : zd_k b_Sht_renew "SameTuesday$Sheet" 22 0 23 := Or.inl ⟨0, by decide +kernel, by decide, rfl⟩
theorem d_Sht_renew_23 : zd_l .istore_n .istore b_Sht_renew 23 3 24 := Or.inl ⟨3, rfl, by decide +kernel, rfl⟩
theorem d_Sht_renew_24 : zd_l .iload_n .iload b_Sht_renew 24 3 25 := Or.inl ⟨3, rfl, by decide +kernel, rfl⟩
theorem d_Sht_renew_25 : zd_l .aload_n .aload b_Sht_renew 25 0 26 := Or.inl ⟨0, rfl, by decide +kernel, rfl⟩
theorem d_Sht_renew_26 : zd b_Sht_renew 26 (.getfield 9) 3 29 := ⟨by decide +kernel, rfl⟩
theorem d_Sht_renew_29 : zd b_Sht_renew 29 .arraylength 1 30 := ⟨by decide +kernel, rfl⟩
theorem d_Sht_renew_30 : zd_b b_Sht_renew 30 (.if_icmp .ge) 33 46 := ⟨16, by decide +kernel, by decide, rfl⟩
theorem d_Sht_renew_33 : zd_l .aload_n .aload b_Sht_renew 33 0 34 := Or.inl ⟨0, rfl, by decide +kernel, rfl⟩
theorem d_Sht_renew_34 : zd b_Sht_renew 34 (.getfield 9) 3 37 := ⟨by decide +kernel, rfl⟩
theorem d_Sht_renew_37 : zd_l .iload_n .iload b_Sht_renew 37 3 38 := Or.inl ⟨3, rfl, by decide +kernel, rfl⟩
theorem d_Sht_renew_38 : zd_k b_Sht_renew "SameTuesday$Sheet" 38 0 39 := Or.inl ⟨0, by decide +kernel, by decide, rfl⟩
theorem d_Sht_renew_39 : zd b_Sht_renew 39 .iastore 1 40 := ⟨by decide +kernel, rfl⟩
theorem d_Sht_renew_40 : zd_i b_Sht_renew 40 3 1 1 43 := ⟨by decide +kernel, by decide, rfl⟩
theorem d_Sht_renew_43 : zd_b b_Sht_renew 43 .goto 46 24 := ⟨(-19), by decide +kernel, by decide, rfl⟩
theorem d_Sht_renew_46 : zd b_Sht_renew 46 .return_ 1 47 := ⟨by decide +kernel, rfl⟩
theorem d_Sht_empty_0 : zd_l .aload_n .aload b_Sht_empty 0 0 1 := Or.inl ⟨0, rfl, by decide +kernel, rfl⟩
theorem d_Sht_empty_1 : zd_k b_Sht_empty "SameTuesday$Sheet" 1 (-1) 2 := Or.inl ⟨(-1), by decide +kernel, by decide, rfl⟩
theorem d_Sht_empty_2 : zd b_Sht_empty 2 (.putfield 15) 3 5 := ⟨by decide +kernel, rfl⟩
theorem d_Sht_empty_5 : zd_l .aload_n .aload b_Sht_empty 5 0 6 := Or.inl ⟨0, rfl, by decide +kernel, rfl⟩
theorem d_Sht_empty_6 : zd_k b_Sht_empty "SameTuesday$Sheet" 6 0 7 := Or.inl ⟨0, by decide +kernel, by decide, rfl⟩
theorem d_Sht_empty_7 : zd b_Sht_empty 7 (.putfield 19) 3 10 := ⟨by decide +kernel, rfl⟩
theorem d_Sht_empty_10 : zd b_Sht_empty 10 .return_ 1 11 := ⟨by decide +kernel, rfl⟩
theorem d_Sht_holds_0 : zd_l .iload_n .iload b_Sht_holds 0 1 1 := Or.inl ⟨1, rfl, by decide +kernel, rfl⟩
theorem d_Sht_holds_1 : zd_b b_Sht_holds 1 (.ifCond .lt) 4 30 := ⟨29, by decide +kernel, by decide, rfl⟩
theorem d_Sht_holds_4 : zd_l .iload_n .iload b_Sht_holds 4 2 5 := Or.inl ⟨2, rfl, by decide +kernel, rfl⟩
theorem d_Sht_holds_5 : zd_b b_Sht_holds 5 (.ifCond .lt) 8 30 := ⟨25, by decide +kernel, by decide, rfl⟩
theorem d_Sht_holds_8 : zd_l .iload_n .iload b_Sht_holds 8 1 9 := Or.inl ⟨1, rfl, by decide +kernel, rfl⟩
theorem d_Sht_holds_9 : zd_l .aload_n .aload b_Sht_holds 9 0 10 := Or.inl ⟨0, rfl, by decide +kernel, rfl⟩
theorem d_Sht_holds_10 : zd b_Sht_holds 10 (.getfield 19) 3 13 := ⟨by decide +kernel, rfl⟩
theorem d_Sht_holds_13 : zd_b b_Sht_holds 13 (.if_icmp .gt) 16 30 := ⟨17, by decide +kernel, by decide, rfl⟩
theorem d_Sht_holds_16 : zd_l .iload_n .iload b_Sht_holds 16 2 17 := Or.inl ⟨2, rfl, by decide +kernel, rfl⟩
theorem d_Sht_holds_17 : zd_l .aload_n .aload b_Sht_holds 17 0 18 := Or.inl ⟨0, rfl, by decide +kernel, rfl⟩
theorem d_Sht_holds_18 : zd b_Sht_holds 18 (.getfield 19) 3 21 := ⟨by decide +kernel, rfl⟩
theorem d_Sht_holds_21 : zd_l .iload_n .iload b_Sht_holds 21 1 22 := Or.inl ⟨1, rfl, by decide +kernel, rfl⟩
theorem d_Sht_holds_22 : zd b_Sht_holds 22 .isub 1 23 := ⟨by decide +kernel, rfl⟩
theorem d_Sht_holds_23 : zd_b b_Sht_holds 23 (.if_icmp .gt) 26 30 := ⟨7, by decide +kernel, by decide, rfl⟩
theorem d_Sht_holds_26 : zd_k b_Sht_holds "SameTuesday$Sheet" 26 1 27 := Or.inl ⟨1, by decide +kernel, by decide, rfl⟩
theorem d_Sht_holds_27 : zd_b b_Sht_holds 27 .goto 30 31 := ⟨4, by decide +kernel, by decide, rfl⟩
theorem d_Sht_holds_30 : zd_k b_Sht_holds "SameTuesday$Sheet" 30 0 31 := Or.inl ⟨0, by decide +kernel, by decide, rfl⟩
theorem d_Sht_holds_31 : zd b_Sht_holds 31 .ireturn 1 32 := ⟨by decide +kernel, rfl⟩
theorem d_Sht_cellAt_0 : zd_l .iload_n .iload b_Sht_cellAt 0 1 1 := Or.inl ⟨1, rfl, by decide +kernel, rfl⟩
theorem d_Sht_cellAt_1 : zd_b b_Sht_cellAt 1 (.ifCond .lt) 4 21 := ⟨20, by decide +kernel, by decide, rfl⟩
theorem d_Sht_cellAt_4 : zd_l .iload_n .iload b_Sht_cellAt 4 1 5 := Or.inl ⟨1, rfl, by decide +kernel, rfl⟩
theorem d_Sht_cellAt_5 : zd_l .aload_n .aload b_Sht_cellAt 5 0 6 := Or.inl ⟨0, rfl, by decide +kernel, rfl⟩
theorem d_Sht_cellAt_6 : zd b_Sht_cellAt 6 (.getfield 19) 3 9 := ⟨by decide +kernel, rfl⟩
theorem d_Sht_cellAt_9 : zd_b b_Sht_cellAt 9 (.if_icmp .ge) 12 21 := ⟨12, by decide +kernel, by decide, rfl⟩
theorem d_Sht_cellAt_12 : zd_l .aload_n .aload b_Sht_cellAt 12 0 13 := Or.inl ⟨0, rfl, by decide +kernel, rfl⟩
theorem d_Sht_cellAt_13 : zd b_Sht_cellAt 13 (.getfield 9) 3 16 := ⟨by decide +kernel, rfl⟩
theorem d_Sht_cellAt_16 : zd_l .iload_n .iload b_Sht_cellAt 16 1 17 := Or.inl ⟨1, rfl, by decide +kernel, rfl⟩
theorem d_Sht_cellAt_17 : zd b_Sht_cellAt 17 .iaload 1 18 := ⟨by decide +kernel, rfl⟩
theorem d_Sht_cellAt_18 : zd_b b_Sht_cellAt 18 .goto 21 22 := ⟨4, by decide +kernel, by decide, rfl⟩
theorem d_Sht_cellAt_21 : zd_k b_Sht_cellAt "SameTuesday$Sheet" 21 0 22 := Or.inl ⟨0, by decide +kernel, by decide, rfl⟩
theorem d_Sht_cellAt_22 : zd b_Sht_cellAt 22 .ireturn 1 23 := ⟨by decide +kernel, rfl⟩
theorem d_Sht_setCell_0 : zd_l .iload_n .iload b_Sht_setCell 0 1 1 := Or.inl ⟨1, rfl, by decide +kernel, rfl⟩
theorem d_Sht_setCell_1 : zd_b b_Sht_setCell 1 (.ifCond .lt) 4 44 := ⟨43, by decide +kernel, by decide, rfl⟩
theorem d_Sht_setCell_4 : zd_l .iload_n .iload b_Sht_setCell 4 1 5 := Or.inl ⟨1, rfl, by decide +kernel, rfl⟩
theorem d_Sht_setCell_5 : zd_l .aload_n .aload b_Sht_setCell 5 0 6 := Or.inl ⟨0, rfl, by decide +kernel, rfl⟩
theorem d_Sht_setCell_6 : zd b_Sht_setCell 6 (.getfield 19) 3 9 := ⟨by decide +kernel, rfl⟩
theorem d_Sht_setCell_9 : zd_b b_Sht_setCell 9 (.if_icmp .ge) 12 44 := ⟨35, by decide +kernel, by decide, rfl⟩
theorem d_Sht_setCell_12 : zd_l .aload_n .aload b_Sht_setCell 12 0 13 := Or.inl ⟨0, rfl, by decide +kernel, rfl⟩
theorem d_Sht_setCell_13 : zd b_Sht_setCell 13 (.getfield 9) 3 16 := ⟨by decide +kernel, rfl⟩
theorem d_Sht_setCell_16 : zd_l .iload_n .iload b_Sht_setCell 16 1 17 := Or.inl ⟨1, rfl, by decide +kernel, rfl⟩
theorem d_Sht_setCell_17 : zd_l .aload_n .aload b_Sht_setCell 17 0 18 := Or.inl ⟨0, rfl, by decide +kernel, rfl⟩
theorem d_Sht_setCell_18 : zd b_Sht_setCell 18 (.getfield 15) 3 21 := ⟨by decide +kernel, rfl⟩
theorem d_Sht_setCell_21 : zd_b b_Sht_setCell 21 (.ifCond .ne) 24 29 := ⟨8, by decide +kernel, by decide, rfl⟩
theorem d_Sht_setCell_24 : zd_l .iload_n .iload b_Sht_setCell 24 2 25 := Or.inl ⟨2, rfl, by decide +kernel, rfl⟩
theorem d_Sht_setCell_25 : zd b_Sht_setCell 25 .i2b 1 26 := ⟨by decide +kernel, rfl⟩
theorem d_Sht_setCell_26 : zd_b b_Sht_setCell 26 .goto 29 43 := ⟨17, by decide +kernel, by decide, rfl⟩
theorem d_Sht_setCell_29 : zd_l .aload_n .aload b_Sht_setCell 29 0 30 := Or.inl ⟨0, rfl, by decide +kernel, rfl⟩
theorem d_Sht_setCell_30 : zd b_Sht_setCell 30 (.getfield 15) 3 33 := ⟨by decide +kernel, rfl⟩
theorem d_Sht_setCell_33 : zd_k b_Sht_setCell "SameTuesday$Sheet" 33 1 34 := Or.inl ⟨1, by decide +kernel, by decide, rfl⟩
theorem d_Sht_setCell_34 : zd_b b_Sht_setCell 34 (.if_icmp .ne) 37 42 := ⟨8, by decide +kernel, by decide, rfl⟩
theorem d_Sht_setCell_37 : zd_l .iload_n .iload b_Sht_setCell 37 2 38 := Or.inl ⟨2, rfl, by decide +kernel, rfl⟩
theorem d_Sht_setCell_38 : zd b_Sht_setCell 38 .i2s 1 39 := ⟨by decide +kernel, rfl⟩
theorem d_Sht_setCell_39 : zd_b b_Sht_setCell 39 .goto 42 43 := ⟨4, by decide +kernel, by decide, rfl⟩
theorem d_Sht_setCell_42 : zd_l .iload_n .iload b_Sht_setCell 42 2 43 := Or.inl ⟨2, rfl, by decide +kernel, rfl⟩
theorem d_Sht_setCell_43 : zd b_Sht_setCell 43 .iastore 1 44 := ⟨by decide +kernel, rfl⟩
theorem d_Sht_setCell_44 : zd b_Sht_setCell 44 .return_ 1 45 := ⟨by decide +kernel, rfl⟩
theorem d_Sht_takeFrom_0 : zd_l .aload_n .aload b_Sht_takeFrom 0 1 1 := Or.inl ⟨1, rfl, by decide +kernel, rfl⟩
theorem d_Sht_takeFrom_1 : zd_l .iload_n .iload b_Sht_takeFrom 1 2 2 := Or.inl ⟨2, rfl, by decide +kernel, rfl⟩
theorem d_Sht_takeFrom_2 : zd_l .iload_n .iload b_Sht_takeFrom 2 4 4 := Or.inr ⟨by decide +kernel, rfl⟩
theorem d_Sht_takeFrom_4 : zd b_Sht_takeFrom 4 (.invokevirtual 31) 3 7 := ⟨by decide +kernel, rfl⟩
theorem d_Sht_takeFrom_7 : zd_b b_Sht_takeFrom 7 (.ifCond .eq) 10 35 := ⟨28, by decide +kernel, by decide, rfl⟩
theorem d_Sht_takeFrom_10 : zd_l .aload_n .aload b_Sht_takeFrom 10 0 11 := Or.inl ⟨0, rfl, by decide +kernel, rfl⟩
theorem d_Sht_takeFrom_11 : zd_l .iload_n .iload b_Sht_takeFrom 11 3 12 := Or.inl ⟨3, rfl, by decide +kernel, rfl⟩
theorem d_Sht_takeFrom_12 : zd_l .iload_n .iload b_Sht_takeFrom 12 4 14 := Or.inr ⟨by decide +kernel, rfl⟩
theorem d_Sht_takeFrom_14 : zd b_Sht_takeFrom 14 (.invokevirtual 31) 3 17 := ⟨by decide +kernel, rfl⟩
theorem d_Sht_takeFrom_17 : zd_b b_Sht_takeFrom 17 (.ifCond .eq) 20 35 := ⟨18, by decide +kernel, by decide, rfl⟩
theorem d_Sht_takeFrom_20 : zd_l .aload_n .aload b_Sht_takeFrom 20 1 21 := Or.inl ⟨1, rfl, by decide +kernel, rfl⟩
theorem d_Sht_takeFrom_21 : zd b_Sht_takeFrom 21 (.getfield 9) 3 24 := ⟨by decide +kernel, rfl⟩
theorem d_Sht_takeFrom_24 : zd_l .iload_n .iload b_Sht_takeFrom 24 2 25 := Or.inl ⟨2, rfl, by decide +kernel, rfl⟩
theorem d_Sht_takeFrom_25 : zd_l .aload_n .aload b_Sht_takeFrom 25 0 26 := Or.inl ⟨0, rfl, by decide +kernel, rfl⟩
theorem d_Sht_takeFrom_26 : zd b_Sht_takeFrom 26 (.getfield 9) 3 29 := ⟨by decide +kernel, rfl⟩
theorem d_Sht_takeFrom_29 : zd_l .iload_n .iload b_Sht_takeFrom 29 3 30 := Or.inl ⟨3, rfl, by decide +kernel, rfl⟩
theorem d_Sht_takeFrom_30 : zd_l .iload_n .iload b_Sht_takeFrom 30 4 32 := Or.inr ⟨by decide +kernel, rfl⟩
theorem d_Sht_takeFrom_32 : zd b_Sht_takeFrom 32 (.invokestatic 35) 3 35 := ⟨by decide +kernel, rfl⟩
theorem d_Sht_takeFrom_35 : zd b_Sht_takeFrom 35 .return_ 1 36 := ⟨by decide +kernel, rfl⟩
set_option maxRecDepth 20000 in
theorem f_Txt_9_8 : zb_FL "SameTuesday$Text" 9 8 0 := ⟨"SameTuesday$Text", zF_Txt, 6, "SameTuesday$Text", rfl, by decide, zi_Txt, zb_mem 270 rfl rfl, Or.inl rfl⟩
set_option maxRecDepth 20000 in
theorem p_Txt_9_8 : zb_PF "SameTuesday$Text" 9 8 0 (.object "SameTuesday$Sheet") := ⟨"SameTuesday$Text", zF_Txt, 6, "SameTuesday$Text", zt_Txt, rfl, by decide, zi_Txt, zb_mem 270 rfl rfl, Or.inl rfl, zk_Txt, zn_Txt, rfl, rfl, rfl⟩
set_option maxRecDepth 20000 in
theorem f_Txt_15_8 : zb_FL "SameTuesday$Text" 15 8 1 := ⟨"SameTuesday$Text", zF_Txt, 6, "SameTuesday$Text", rfl, by decide, zi_Txt, zb_mem 271 rfl rfl, Or.inl rfl⟩
set_option maxRecDepth 20000 in
theorem p_Txt_15_8 : zb_PF "SameTuesday$Text" 15 8 1 .int := ⟨"SameTuesday$Text", zF_Txt, 6, "SameTuesday$Text", zt_Txt, rfl, by decide, zi_Txt, zb_mem 271 rfl rfl, Or.inl rfl, zk_Txt, zn_Txt, rfl, rfl, rfl⟩
set_option maxRecDepth 20000 in
theorem f_Txt_19_8 : zb_FL "SameTuesday$Text" 19 8 2 := ⟨"SameTuesday$Text", zF_Txt, 6, "SameTuesday$Text", rfl, by decide, zi_Txt, zb_mem 272 rfl rfl, Or.inl rfl⟩
set_option maxRecDepth 20000 in
theorem p_Txt_19_8 : zb_PF "SameTuesday$Text" 19 8 2 .int := ⟨"SameTuesday$Text", zF_Txt, 6, "SameTuesday$Text", zt_Txt, rfl, by decide, zi_Txt, zb_mem 272 rfl rfl, Or.inl rfl, zk_Txt, zn_Txt, rfl, rfl, rfl⟩
set_option maxRecDepth 20000 in
theorem f_Txt_22_8 : zb_FL "SameTuesday$Text" 22 8 3 := ⟨"SameTuesday$Text", zF_Txt, 6, "SameTuesday$Text", rfl, by decide, zi_Txt, zb_mem 273 rfl rfl, Or.inl rfl⟩
set_option maxRecDepth 20000 in
theorem p_Txt_22_8 : zb_PL "SameTuesday$Text" 22 8 3 .int := ⟨"SameTuesday$Text", zF_Txt, 6, "SameTuesday$Text", zt_Txt, rfl, by decide, zi_Txt, zb_mem 273 rfl rfl, Or.inl rfl, zk_Txt, zn_Txt, rfl, rfl⟩
set_option maxRecDepth 20000 in
theorem f_Txt_25_8 : zb_FL "SameTuesday$Text" 25 8 4 := ⟨"SameTuesday$Text", zF_Txt, 6, "SameTuesday$Text", rfl, by decide, zi_Txt, zb_mem 274 rfl rfl, Or.inl rfl⟩
set_option maxRecDepth 20000 in
theorem p_Txt_25_8 : zb_PL "SameTuesday$Text" 25 8 4 .int := ⟨"SameTuesday$Text", zF_Txt, 6, "SameTuesday$Text", zt_Txt, rfl, by decide, zi_Txt, zb_mem 274 rfl rfl, Or.inl rfl, zk_Txt, zn_Txt, rfl, rfl⟩
set_option maxRecDepth 20000 in
theorem f_Txt_28_8 : zb_FL "SameTuesday$Text" 28 8 5 := ⟨"SameTuesday$Text", zF_Txt, 6, "SameTuesday$Text", rfl, by decide, zi_Txt, zb_mem 275 rfl rfl, Or.inl rfl⟩
set_option maxRecDepth 20000 in
theorem p_Txt_28_8 : zb_PL "SameTuesday$Text" 28 8 5 .int := ⟨"SameTuesday$Text", zF_Txt, 6, "SameTuesday$Text", zt_Txt, rfl, by decide, zi_Txt, zb_mem 275 rfl rfl, Or.inl rfl, zk_Txt, zn_Txt, rfl, rfl⟩
set_option maxRecDepth 20000 in
theorem l_Txt_31 : zl_V "SameTuesday$Text" 31 y_Txt_codeAt b_Txt_codeAt 2 (some .int) 1 := ⟨⟨zb_mem 293 rfl rfl, zb_mem 58 rfl rfl, zb_mem 296 rfl rfl, by decide, by decide +kernel⟩, zb_mem 295 rfl rfl, zb_mem 3 rfl rfl⟩
set_option maxRecDepth 20000 in
theorem l_Txt_35 : zl_V "SameTuesday$Text" 35 y_Txt_passPart b_Txt_passPart 7 (some .boolean) 0 := ⟨⟨zb_mem 301 rfl rfl, zb_mem 58 rfl rfl, zb_mem 304 rfl rfl, by decide, by decide +kernel⟩, zb_mem 303 rfl rfl, zb_mem 4 rfl rfl⟩
set_option maxRecDepth 20000 in
theorem l_Txt_39 : zl_S "SameTuesday$Text" 39 y_Txt_fitsHappening b_Txt_fitsHappening 2 (some .boolean) 2 := ⟨⟨zb_mem 305 rfl rfl, zb_mem 58 rfl rfl, zb_mem 307 rfl rfl, by decide, by decide +kernel⟩, zb_mem 306 rfl rfl⟩
set_option maxRecDepth 20000 in
theorem l_Txt_43 : zl_S "SameTuesday$Text" 43 y_Txt_fitsDeed b_Txt_fitsDeed 2 (some .boolean) 2 := ⟨⟨zb_mem 314 rfl rfl, zb_mem 58 rfl rfl, zb_mem 316 rfl rfl, by decide, by decide +kernel⟩, zb_mem 315 rfl rfl⟩
set_option maxRecDepth 20000 in
theorem l_Txt_46 : zl_S "SameTuesday$Text" 46 y_Txt_kindOf b_Txt_kindOf 1 (some .int) 1 := ⟨⟨zb_mem 308 rfl rfl, zb_mem 58 rfl rfl, zb_mem 310 rfl rfl, by decide, by decide +kernel⟩, zb_mem 309 rfl rfl⟩
set_option maxRecDepth 20000 in
theorem l_Txt_49 : zl_S "SameTuesday$Text" 49 y_Txt_isDigit b_Txt_isDigit 3 (some .boolean) 3 := ⟨⟨zb_mem 311 rfl rfl, zb_mem 58 rfl rfl, zb_mem 313 rfl rfl, by decide, by decide +kernel⟩, zb_mem 312 rfl rfl⟩
set_option maxRecDepth 20000 in
theorem l_Txt_53 : zl_V "SameTuesday$Text" 53 y_Sht_cellAt b_Sht_cellAt 2 (some .int) 1 := ⟨⟨zb_mem 297 rfl rfl, zb_mem 51 rfl rfl, zb_mem 300 rfl rfl, by decide, by decide +kernel⟩, zb_mem 298 rfl rfl, zb_mem 299 rfl rfl⟩
set_option maxRecDepth 20000 in
theorem l_Txt_58 : zl_V "SameTuesday$Text" 58 y_Txt_digitAt b_Txt_digitAt 2 (some .int) 1 := ⟨⟨zb_mem 332 rfl rfl, zb_mem 58 rfl rfl, zb_mem 335 rfl rfl, by decide, by decide +kernel⟩, zb_mem 334 rfl rfl, zb_mem 5 rfl rfl⟩
set_option maxRecDepth 20000 in
theorem l_Txt_63 : zl_I "SameTuesday$Text" 63 y_Mis_init b_Mis_init 5 4 := ⟨⟨zb_mem 338 rfl rfl, zb_mem 61 rfl rfl, zb_mem 340 rfl rfl, by decide, by decide +kernel⟩, rfl, zb_mem 339 rfl rfl⟩
set_option maxRecDepth 20000 in
theorem l_Txt_68 : zl_I "SameTuesday$Text" 68 y_Cap_init b_Cap_init 5 4 := ⟨⟨zb_mem 388 rfl rfl, zb_mem 62 rfl rfl, zb_mem 390 rfl rfl, by decide, by decide +kernel⟩, rfl, zb_mem 389 rfl rfl⟩
set_option maxRecDepth 20000 in
theorem l_Txt_71 : zl_I "SameTuesday$Text" 71 y_Hap_init b_Hap_init 5 4 := ⟨⟨zb_mem 401 rfl rfl, zb_mem 60 rfl rfl, zb_mem 343 rfl rfl, by decide, by decide +kernel⟩, rfl, zb_mem 342 rfl rfl⟩
set_option maxRecDepth 20000 in
theorem l_Txt_74 : zl_I "SameTuesday$Text" 74 y_Deed_init b_Deed_init 5 4 := ⟨⟨zb_mem 419 rfl rfl, zb_mem 63 rfl rfl, zb_mem 421 rfl rfl, by decide, by decide +kernel⟩, rfl, zb_mem 420 rfl rfl⟩
theorem d_Txt_init_0 : zd_l .aload_n .aload b_Txt_init 0 0 1 := Or.inl ⟨0, rfl, by decide +kernel, rfl⟩
theorem d_Txt_init_1 : zd b_Txt_init 1 (.invokespecial 3) 3 4 := ⟨by decide +kernel, rfl⟩
theorem d_Txt_init_4 : zd_l .aload_n .aload b_Txt_init 4 0 5 := Or.inl ⟨0, rfl, by decide +kernel, rfl⟩
theorem d_Txt_init_5 : zd_l .aload_n .aload b_Txt_init 5 1 6 := Or.inl ⟨1, rfl, by decide +kernel, rfl⟩
theorem d_Txt_init_6 : zd b_Txt_init 6 (.putfield 9) 3 9 := ⟨by decide +kernel, rfl⟩
theorem d_Txt_init_9 : zd_l .aload_n .aload b_Txt_init 9 0 10 := Or.inl ⟨0, rfl, by decide +kernel, rfl⟩
theorem d_Txt_init_10 : zd_l .iload_n .iload b_Txt_init 10 2 11 := Or.inl ⟨2, rfl, by decide +kernel, rfl⟩
theorem d_Txt_init_11 : zd b_Txt_init 11 (.putfield 15) 3 14 := ⟨by decide +kernel, rfl⟩
theorem d_Txt_init_14 : zd_l .aload_n .aload b_Txt_init 14 0 15 := Or.inl ⟨0, rfl, by decide +kernel, rfl⟩
theorem d_Txt_init_15 : zd_l .iload_n .iload b_Txt_init 15 3 16 := Or.inl ⟨3, rfl, by decide +kernel, rfl⟩
theorem d_Txt_init_16 : zd b_Txt_init 16 (.putfield 19) 3 19 := ⟨by decide +kernel, rfl⟩
theorem d_Txt_init_19 : zd_l .aload_n .aload b_Txt_init 19 0 20 := Or.inl ⟨0, rfl, by decide +kernel, rfl⟩
theorem d_Txt_init_20 : zd_k b_Txt_init "SameTuesday$Text" 20 0 21 := Or.inl ⟨0, by decide +kernel, by decide, rfl⟩
theorem d_Txt_init_21 : zd b_Txt_init 21 (.putfield 22) 3 24 := ⟨by decide +kernel, rfl⟩
theorem d_Txt_init_24 : zd_l .aload_n .aload b_Txt_init 24 0 25 := Or.inl ⟨0, rfl, by decide +kernel, rfl⟩
theorem d_Txt_init_25 : zd_k b_Txt_init "SameTuesday$Text" 25 0 26 := Or.inl ⟨0, by decide +kernel, by decide, rfl⟩
theorem d_Txt_init_26 : zd b_Txt_init 26 (.putfield 25) 3 29 := ⟨by decide +kernel, rfl⟩
theorem d_Txt_init_29 : zd_l .aload_n .aload b_Txt_init 29 0 30 := Or.inl ⟨0, rfl, by decide +kernel, rfl⟩
theorem d_Txt_init_30 : zd_k b_Txt_init "SameTuesday$Text" 30 0 31 := Or.inl ⟨0, by decide +kernel, by decide, rfl⟩
theorem d_Txt_init_31 : zd b_Txt_init 31 (.putfield 28) 3 34 := ⟨by decide +kernel, rfl⟩
theorem d_Txt_init_34 : zd b_Txt_init 34 .return_ 1 35 := ⟨by decide +kernel, rfl⟩
theorem d_Txt_firstFault_0 : zd_l .aload_n .aload b_Txt_firstFault 0 0 1 := Or.inl ⟨0, rfl, by decide +kernel, rfl⟩
theorem d_Txt_firstFault_1 : zd_k b_Txt_firstFault "SameTuesday$Text" 1 0 2 := Or.inl ⟨0, by decide +kernel, by decide, rfl⟩
theorem d_Txt_firstFault_2 : zd b_Txt_firstFault 2 (.invokevirtual 31) 3 5 := ⟨by decide +kernel, rfl⟩
theorem d_Txt_firstFault_5 : zd_k b_Txt_firstFault "SameTuesday$Text" 5 115 7 := Or.inr (Or.inl ⟨115, by decide +kernel, by decide, rfl⟩)
theorem d_Txt_firstFault_7 : zd_b b_Txt_firstFault 7 (.if_icmp .eq) 10 12 := ⟨5, by decide +kernel, by decide, rfl⟩
theorem d_Txt_firstFault_10 : zd_k b_Txt_firstFault "SameTuesday$Text" 10 0 11 := Or.inl ⟨0, by decide +kernel, by decide, rfl⟩
theorem d_Txt_firstFault_11 : zd b_Txt_firstFault 11 .ireturn 1 12 := ⟨by decide +kernel, rfl⟩
theorem d_Txt_firstFault_12 : zd_l .aload_n .aload b_Txt_firstFault 12 0 13 := Or.inl ⟨0, rfl, by decide +kernel, rfl⟩
theorem d_Txt_firstFault_13 : zd_k b_Txt_firstFault "SameTuesday$Text" 13 1 14 := Or.inl ⟨1, by decide +kernel, by decide, rfl⟩
theorem d_Txt_firstFault_14 : zd b_Txt_firstFault 14 (.putfield 22) 3 17 := ⟨by decide +kernel, rfl⟩
theorem d_Txt_firstFault_17 : zd_k b_Txt_firstFault "SameTuesday$Text" 17 1 18 := Or.inl ⟨1, by decide +kernel, by decide, rfl⟩
theorem d_Txt_firstFault_18 : zd_l .istore_n .istore b_Txt_firstFault 18 1 19 := Or.inl ⟨1, rfl, by decide +kernel, rfl⟩
theorem d_Txt_firstFault_19 : zd_k b_Txt_firstFault "SameTuesday$Text" 19 0 20 := Or.inl ⟨0, by decide +kernel, by decide, rfl⟩
theorem d_Txt_firstFault_20 : zd_l .istore_n .istore b_Txt_firstFault 20 2 21 := Or.inl ⟨2, rfl, by decide +kernel, rfl⟩
theorem d_Txt_firstFault_21 : zd_l .iload_n .iload b_Txt_firstFault 21 1 22 := Or.inl ⟨1, rfl, by decide +kernel, rfl⟩
theorem d_Txt_firstFault_22 : zd_b b_Txt_firstFault 22 (.ifCond .eq) 25 63 := ⟨41, by decide +kernel, by decide, rfl⟩
theorem d_Txt_firstFault_25 : zd_l .iload_n .iload b_Txt_firstFault 25 2 26 := Or.inl ⟨2, rfl, by decide +kernel, rfl⟩
theorem d_Txt_firstFault_26 : zd_k b_Txt_firstFault "SameTuesday$Text" 26 11 28 := Or.inr (Or.inl ⟨11, by decide +kernel, by decide, rfl⟩)
theorem d_Txt_firstFault_28 : zd_b b_Txt_firstFault 28 (.if_icmp .gt) 31 63 := ⟨35, by decide +kernel, by decide, rfl⟩
theorem d_Txt_firstFault_31 : zd_l .aload_n .aload b_Txt_firstFault 31 0 32 := Or.inl ⟨0, rfl, by decide +kernel, rfl⟩
theorem d_Txt_firstFault_32 : zd b_Txt_firstFault 32 (.getfield 22) 3 35 := ⟨by decide +kernel, rfl⟩
theorem d_Txt_firstFault_35 : zd_l .aload_n .aload b_Txt_firstFault 35 0 36 := Or.inl ⟨0, rfl, by decide +kernel, rfl⟩
theorem d_Txt_firstFault_36 : zd b_Txt_firstFault 36 (.getfield 19) 3 39 := ⟨by decide +kernel, rfl⟩
theorem d_Txt_firstFault_39 : zd_b b_Txt_firstFault 39 (.if_icmp .ne) 42 52 := ⟨13, by decide +kernel, by decide, rfl⟩
theorem d_Txt_firstFault_42 : zd_l .aload_n .aload b_Txt_firstFault 42 0 43 := Or.inl ⟨0, rfl, by decide +kernel, rfl⟩
theorem d_Txt_firstFault_43 : zd b_Txt_firstFault 43 (.getfield 25) 3 46 := ⟨by decide +kernel, rfl⟩
theorem d_Txt_firstFault_46 : zd_b b_Txt_firstFault 46 (.ifCond .le) 49 52 := ⟨6, by decide +kernel, by decide, rfl⟩
theorem d_Txt_firstFault_49 : zd_k b_Txt_firstFault "SameTuesday$Text" 49 (-9) 51 := Or.inr (Or.inl ⟨(-9), by decide +kernel, by decide, rfl⟩)
theorem d_Txt_firstFault_51 : zd b_Txt_firstFault 51 .ireturn 1 52 := ⟨by decide +kernel, rfl⟩
theorem d_Txt_firstFault_52 : zd_l .aload_n .aload b_Txt_firstFault 52 0 53 := Or.inl ⟨0, rfl, by decide +kernel, rfl⟩
theorem d_Txt_firstFault_53 : zd b_Txt_firstFault 53 (.invokevirtual 35) 3 56 := ⟨by decide +kernel, rfl⟩
theorem d_Txt_firstFault_56 : zd_l .istore_n .istore b_Txt_firstFault 56 1 57 := Or.inl ⟨1, rfl, by decide +kernel, rfl⟩
theorem d_Txt_firstFault_57 : zd_i b_Txt_firstFault 57 2 1 1 60 := ⟨by decide +kernel, by decide, rfl⟩
theorem d_Txt_firstFault_60 : zd_b b_Txt_firstFault 60 .goto 63 21 := ⟨(-39), by decide +kernel, by decide, rfl⟩
theorem d_Txt_firstFault_63 : zd_l .aload_n .aload b_Txt_firstFault 63 0 64 := Or.inl ⟨0, rfl, by decide +kernel, rfl⟩
theorem d_Txt_firstFault_64 : zd b_Txt_firstFault 64 (.getfield 22) 3 67 := ⟨by decide +kernel, rfl⟩
theorem d_Txt_firstFault_67 : zd b_Txt_firstFault 67 .ireturn 1 68 := ⟨by decide +kernel, rfl⟩
theorem d_Txt_passPart_0 : zd_l .aload_n .aload b_Txt_passPart 0 0 1 := Or.inl ⟨0, rfl, by decide +kernel, rfl⟩
theorem d_Txt_passPart_1 : zd_l .aload_n .aload b_Txt_passPart 1 0 2 := Or.inl ⟨0, rfl, by decide +kernel, rfl⟩
theorem d_Txt_passPart_2 : zd b_Txt_passPart 2 (.getfield 22) 3 5 := ⟨by decide +kernel, rfl⟩
theorem d_Txt_passPart_5 : zd b_Txt_passPart 5 (.invokevirtual 31) 3 8 := ⟨by decide +kernel, rfl⟩
theorem d_Txt_passPart_8 : zd_l .istore_n .istore b_Txt_passPart 8 1 9 := Or.inl ⟨1, rfl, by decide +kernel, rfl⟩
theorem d_Txt_passPart_9 : zd_l .iload_n .iload b_Txt_passPart 9 1 10 := Or.inl ⟨1, rfl, by decide +kernel, rfl⟩
theorem d_Txt_passPart_10 : zd_k b_Txt_passPart "SameTuesday$Text" 10 59 12 := Or.inr (Or.inl ⟨59, by decide +kernel, by decide, rfl⟩)
theorem d_Txt_passPart_12 : zd_b b_Txt_passPart 12 (.if_icmp .ne) 15 35 := ⟨23, by decide +kernel, by decide, rfl⟩
theorem d_Txt_passPart_15 : zd_l .aload_n .aload b_Txt_passPart 15 0 16 := Or.inl ⟨0, rfl, by decide +kernel, rfl⟩
theorem d_Txt_passPart_16 : zd b_Txt_passPart 16 (.getfield 28) 3 19 := ⟨by decide +kernel, rfl⟩
theorem d_Txt_passPart_19 : zd_b b_Txt_passPart 19 (.ifCond .ne) 22 35 := ⟨16, by decide +kernel, by decide, rfl⟩
theorem d_Txt_passPart_22 : zd_l .aload_n .aload b_Txt_passPart 22 0 23 := Or.inl ⟨0, rfl, by decide +kernel, rfl⟩
theorem d_Txt_passPart_23 : zd b_Txt_passPart 23 (.getfield 25) 3 26 := ⟨by decide +kernel, rfl⟩
theorem d_Txt_passPart_26 : zd_k b_Txt_passPart "SameTuesday$Text" 26 6 28 := Or.inr (Or.inl ⟨6, by decide +kernel, by decide, rfl⟩)
theorem d_Txt_passPart_28 : zd_b b_Txt_passPart 28 (.if_icmp .ge) 31 35 := ⟨7, by decide +kernel, by decide, rfl⟩
theorem d_Txt_passPart_31 : zd_k b_Txt_passPart "SameTuesday$Text" 31 1 32 := Or.inl ⟨1, by decide +kernel, by decide, rfl⟩
theorem d_Txt_passPart_32 : zd_b b_Txt_passPart 32 .goto 35 36 := ⟨4, by decide +kernel, by decide, rfl⟩
theorem d_Txt_passPart_35 : zd_k b_Txt_passPart "SameTuesday$Text" 35 0 36 := Or.inl ⟨0, by decide +kernel, by decide, rfl⟩
theorem d_Txt_passPart_36 : zd_l .istore_n .istore b_Txt_passPart 36 2 37 := Or.inl ⟨2, rfl, by decide +kernel, rfl⟩
theorem d_Txt_passPart_37 : zd_l .iload_n .iload b_Txt_passPart 37 1 38 := Or.inl ⟨1, rfl, by decide +kernel, rfl⟩
theorem d_Txt_passPart_38 : zd_k b_Txt_passPart "SameTuesday$Text" 38 44 40 := Or.inr (Or.inl ⟨44, by decide +kernel, by decide, rfl⟩)
theorem d_Txt_passPart_40 : zd_b b_Txt_passPart 40 (.if_icmp .ne) 43 62 := ⟨22, by decide +kernel, by decide, rfl⟩
theorem d_Txt_passPart_43 : zd_l .aload_n .aload b_Txt_passPart 43 0 44 := Or.inl ⟨0, rfl, by decide +kernel, rfl⟩
theorem d_Txt_passPart_44 : zd b_Txt_passPart 44 (.getfield 25) 3 47 := ⟨by decide +kernel, rfl⟩
theorem d_Txt_passPart_47 : zd_b b_Txt_passPart 47 (.ifCond .le) 50 62 := ⟨15, by decide +kernel, by decide, rfl⟩
theorem d_Txt_passPart_50 : zd_l .aload_n .aload b_Txt_passPart 50 0 51 := Or.inl ⟨0, rfl, by decide +kernel, rfl⟩
theorem d_Txt_passPart_51 : zd b_Txt_passPart 51 (.getfield 28) 3 54 := ⟨by decide +kernel, rfl⟩
theorem d_Txt_passPart_54 : zd_k b_Txt_passPart "SameTuesday$Text" 54 5 55 := Or.inl ⟨5, by decide +kernel, by decide, rfl⟩
theorem d_Txt_passPart_55 : zd_b b_Txt_passPart 55 (.if_icmp .ge) 58 62 := ⟨7, by decide +kernel, by decide, rfl⟩
theorem d_Txt_passPart_58 : zd_k b_Txt_passPart "SameTuesday$Text" 58 1 59 := Or.inl ⟨1, by decide +kernel, by decide, rfl⟩
theorem d_Txt_passPart_59 : zd_b b_Txt_passPart 59 .goto 62 63 := ⟨4, by decide +kernel, by decide, rfl⟩
theorem d_Txt_passPart_62 : zd_k b_Txt_passPart "SameTuesday$Text" 62 0 63 := Or.inl ⟨0, by decide +kernel, by decide, rfl⟩
theorem d_Txt_passPart_63 : zd_l .istore_n .istore b_Txt_passPart 63 3 64 := Or.inl ⟨3, rfl, by decide +kernel, rfl⟩
theorem d_Txt_passPart_64 : zd_l .iload_n .iload b_Txt_passPart 64 2 65 := Or.inl ⟨2, rfl, by decide +kernel, rfl⟩
theorem d_Txt_passPart_65 : zd_b b_Txt_passPart 65 (.ifCond .ne) 68 74 := ⟨9, by decide +kernel, by decide, rfl⟩
theorem d_Txt_passPart_68 : zd_l .iload_n .iload b_Txt_passPart 68 3 69 := Or.inl ⟨3, rfl, by decide +kernel, rfl⟩
theorem d_Txt_passPart_69 : zd_b b_Txt_passPart 69 (.ifCond .ne) 72 74 := ⟨5, by decide +kernel, by decide, rfl⟩
theorem d_Txt_passPart_72 : zd_k b_Txt_passPart "SameTuesday$Text" 72 0 73 := Or.inl ⟨0, by decide +kernel, by decide, rfl⟩
theorem d_Txt_passPart_73 : zd b_Txt_passPart 73 .ireturn 1 74 := ⟨by decide +kernel, rfl⟩
theorem d_Txt_passPart_74 : zd_l .iload_n .iload b_Txt_passPart 74 2 75 := Or.inl ⟨2, rfl, by decide +kernel, rfl⟩
theorem d_Txt_passPart_75 : zd_b b_Txt_passPart 75 (.ifCond .eq) 78 83 := ⟨8, by decide +kernel, by decide, rfl⟩
theorem d_Txt_passPart_78 : zd_k b_Txt_passPart "SameTuesday$Text" 78 6 80 := Or.inr (Or.inl ⟨6, by decide +kernel, by decide, rfl⟩)
theorem d_Txt_passPart_80 : zd_b b_Txt_passPart 80 .goto 83 84 := ⟨4, by decide +kernel, by decide, rfl⟩
theorem d_Txt_passPart_83 : zd_k b_Txt_passPart "SameTuesday$Text" 83 5 84 := Or.inl ⟨5, by decide +kernel, by decide, rfl⟩
theorem d_Txt_passPart_84 : zd_l .istore_n .istore b_Txt_passPart 84 4 86 := Or.inr ⟨by decide +kernel, rfl⟩
theorem d_Txt_passPart_86 : zd_k b_Txt_passPart "SameTuesday$Text" 86 1 87 := Or.inl ⟨1, by decide +kernel, by decide, rfl⟩
theorem d_Txt_passPart_87 : zd_l .istore_n .istore b_Txt_passPart 87 5 89 := Or.inr ⟨by decide +kernel, rfl⟩
theorem d_Txt_passPart_89 : zd_l .iload_n .iload b_Txt_passPart 89 5 91 := Or.inr ⟨by decide +kernel, rfl⟩
theorem d_Txt_passPart_91 : zd_l .iload_n .iload b_Txt_passPart 91 4 93 := Or.inr ⟨by decide +kernel, rfl⟩
theorem d_Txt_passPart_93 : zd_b b_Txt_passPart 93 (.if_icmp .ge) 96 151 := ⟨58, by decide +kernel, by decide, rfl⟩
theorem d_Txt_passPart_96 : zd_l .aload_n .aload b_Txt_passPart 96 0 97 := Or.inl ⟨0, rfl, by decide +kernel, rfl⟩
theorem d_Txt_passPart_97 : zd b_Txt_passPart 97 .dup 1 98 := ⟨by decide +kernel, rfl⟩
theorem d_Txt_passPart_98 : zd b_Txt_passPart 98 (.getfield 22) 3 101 := ⟨by decide +kernel, rfl⟩
theorem d_Txt_passPart_101 : zd_k b_Txt_passPart "SameTuesday$Text" 101 1 102 := Or.inl ⟨1, by decide +kernel, by decide, rfl⟩
theorem d_Txt_passPart_102 : zd b_Txt_passPart 102 .iadd 1 103 := ⟨by decide +kernel, rfl⟩
theorem d_Txt_passPart_103 : zd b_Txt_passPart 103 (.putfield 22) 3 106 := ⟨by decide +kernel, rfl⟩
theorem d_Txt_passPart_106 : zd_l .aload_n .aload b_Txt_passPart 106 0 107 := Or.inl ⟨0, rfl, by decide +kernel, rfl⟩
theorem d_Txt_passPart_107 : zd_l .aload_n .aload b_Txt_passPart 107 0 108 := Or.inl ⟨0, rfl, by decide +kernel, rfl⟩
theorem d_Txt_passPart_108 : zd b_Txt_passPart 108 (.getfield 22) 3 111 := ⟨by decide +kernel, rfl⟩
theorem d_Txt_passPart_111 : zd b_Txt_passPart 111 (.invokevirtual 31) 3 114 := ⟨by decide +kernel, rfl⟩
theorem d_Txt_passPart_114 : zd_l .istore_n .istore b_Txt_passPart 114 6 116 := Or.inr ⟨by decide +kernel, rfl⟩
theorem d_Txt_passPart_116 : zd_l .iload_n .iload b_Txt_passPart 116 2 117 := Or.inl ⟨2, rfl, by decide +kernel, rfl⟩
theorem d_Txt_passPart_117 : zd_b b_Txt_passPart 117 (.ifCond .eq) 120 133 := ⟨16, by decide +kernel, by decide, rfl⟩
theorem d_Txt_passPart_120 : zd_l .iload_n .iload b_Txt_passPart 120 5 122 := Or.inr ⟨by decide +kernel, rfl⟩
theorem d_Txt_passPart_122 : zd_l .iload_n .iload b_Txt_passPart 122 6 124 := Or.inr ⟨by decide +kernel, rfl⟩
theorem d_Txt_passPart_124 : zd b_Txt_passPart 124 (.invokestatic 39) 3 127 := ⟨by decide +kernel, rfl⟩
theorem d_Txt_passPart_127 : zd_b b_Txt_passPart 127 (.ifCond .ne) 130 145 := ⟨18, by decide +kernel, by decide, rfl⟩
theorem d_Txt_passPart_130 : zd_b b_Txt_passPart 130 .goto 133 143 := ⟨13, by decide +kernel, by decide, rfl⟩
theorem d_Txt_passPart_133 : zd_l .iload_n .iload b_Txt_passPart 133 5 135 := Or.inr ⟨by decide +kernel, rfl⟩
theorem d_Txt_passPart_135 : zd_l .iload_n .iload b_Txt_passPart 135 6 137 := Or.inr ⟨by decide +kernel, rfl⟩
theorem d_Txt_passPart_137 : zd b_Txt_passPart 137 (.invokestatic 43) 3 140 := ⟨by decide +kernel, rfl⟩
theorem d_Txt_passPart_140 : zd_b b_Txt_passPart 140 (.ifCond .ne) 143 145 := ⟨5, by decide +kernel, by decide, rfl⟩
theorem d_Txt_passPart_143 : zd_k b_Txt_passPart "SameTuesday$Text" 143 0 144 := Or.inl ⟨0, by decide +kernel, by decide, rfl⟩
theorem d_Txt_passPart_144 : zd b_Txt_passPart 144 .ireturn 1 145 := ⟨by decide +kernel, rfl⟩
theorem d_Txt_passPart_145 : zd_i b_Txt_passPart 145 5 1 1 148 := ⟨by decide +kernel, by decide, rfl⟩
theorem d_Txt_passPart_148 : zd_b b_Txt_passPart 148 .goto 151 89 := ⟨(-59), by decide +kernel, by decide, rfl⟩
theorem d_Txt_passPart_151 : zd_l .aload_n .aload b_Txt_passPart 151 0 152 := Or.inl ⟨0, rfl, by decide +kernel, rfl⟩
theorem d_Txt_passPart_152 : zd b_Txt_passPart 152 .dup 1 153 := ⟨by decide +kernel, rfl⟩
theorem d_Txt_passPart_153 : zd b_Txt_passPart 153 (.getfield 22) 3 156 := ⟨by decide +kernel, rfl⟩
theorem d_Txt_passPart_156 : zd_k b_Txt_passPart "SameTuesday$Text" 156 1 157 := Or.inl ⟨1, by decide +kernel, by decide, rfl⟩
theorem d_Txt_passPart_157 : zd b_Txt_passPart 157 .iadd 1 158 := ⟨by decide +kernel, rfl⟩
theorem d_Txt_passPart_158 : zd b_Txt_passPart 158 (.putfield 22) 3 161 := ⟨by decide +kernel, rfl⟩
theorem d_Txt_passPart_161 : zd_l .aload_n .aload b_Txt_passPart 161 0 162 := Or.inl ⟨0, rfl, by decide +kernel, rfl⟩
theorem d_Txt_passPart_162 : zd b_Txt_passPart 162 .dup 1 163 := ⟨by decide +kernel, rfl⟩
theorem d_Txt_passPart_163 : zd b_Txt_passPart 163 (.getfield 25) 3 166 := ⟨by decide +kernel, rfl⟩
theorem d_Txt_passPart_166 : zd_l .iload_n .iload b_Txt_passPart 166 2 167 := Or.inl ⟨2, rfl, by decide +kernel, rfl⟩
theorem d_Txt_passPart_167 : zd_b b_Txt_passPart 167 (.ifCond .eq) 170 174 := ⟨7, by decide +kernel, by decide, rfl⟩
theorem d_Txt_passPart_170 : zd_k b_Txt_passPart "SameTuesday$Text" 170 1 171 := Or.inl ⟨1, by decide +kernel, by decide, rfl⟩
theorem d_Txt_passPart_171 : zd_b b_Txt_passPart 171 .goto 174 175 := ⟨4, by decide +kernel, by decide, rfl⟩
theorem d_Txt_passPart_174 : zd_k b_Txt_passPart "SameTuesday$Text" 174 0 175 := Or.inl ⟨0, by decide +kernel, by decide, rfl⟩
theorem d_Txt_passPart_175 : zd b_Txt_passPart 175 .iadd 1 176 := ⟨by decide +kernel, rfl⟩
theorem d_Txt_passPart_176 : zd b_Txt_passPart 176 (.putfield 25) 3 179 := ⟨by decide +kernel, rfl⟩
theorem d_Txt_passPart_179 : zd_l .aload_n .aload b_Txt_passPart 179 0 180 := Or.inl ⟨0, rfl, by decide +kernel, rfl⟩
theorem d_Txt_passPart_180 : zd b_Txt_passPart 180 .dup 1 181 := ⟨by decide +kernel, rfl⟩
theorem d_Txt_passPart_181 : zd b_Txt_passPart 181 (.getfield 28) 3 184 := ⟨by decide +kernel, rfl⟩
theorem d_Txt_passPart_184 : zd_l .iload_n .iload b_Txt_passPart 184 3 185 := Or.inl ⟨3, rfl, by decide +kernel, rfl⟩
theorem d_Txt_passPart_185 : zd_b b_Txt_passPart 185 (.ifCond .eq) 188 192 := ⟨7, by decide +kernel, by decide, rfl⟩
theorem d_Txt_passPart_188 : zd_k b_Txt_passPart "SameTuesday$Text" 188 1 189 := Or.inl ⟨1, by decide +kernel, by decide, rfl⟩
theorem d_Txt_passPart_189 : zd_b b_Txt_passPart 189 .goto 192 193 := ⟨4, by decide +kernel, by decide, rfl⟩
theorem d_Txt_passPart_192 : zd_k b_Txt_passPart "SameTuesday$Text" 192 0 193 := Or.inl ⟨0, by decide +kernel, by decide, rfl⟩
theorem d_Txt_passPart_193 : zd b_Txt_passPart 193 .iadd 1 194 := ⟨by decide +kernel, rfl⟩
theorem d_Txt_passPart_194 : zd b_Txt_passPart 194 (.putfield 28) 3 197 := ⟨by decide +kernel, rfl⟩
theorem d_Txt_passPart_197 : zd_k b_Txt_passPart "SameTuesday$Text" 197 1 198 := Or.inl ⟨1, by decide +kernel, by decide, rfl⟩
theorem d_Txt_passPart_198 : zd b_Txt_passPart 198 .ireturn 1 199 := ⟨by decide +kernel, rfl⟩
theorem d_Txt_fitsHappening_0 : zd_l .iload_n .iload b_Txt_fitsHappening 0 0 1 := Or.inl ⟨0, rfl, by decide +kernel, rfl⟩
theorem d_Txt_fitsHappening_1 : decode b_Txt_fitsHappening 1 = .ok (.tableswitch 69 1 4 #[31, 46, 53, 61], 31) := by decide +kernel
theorem d_Txt_fitsHappening_32 : zd_l .iload_n .iload b_Txt_fitsHappening 32 1 33 := Or.inl ⟨1, rfl, by decide +kernel, rfl⟩
theorem d_Txt_fitsHappening_33 : zd b_Txt_fitsHappening 33 (.invokestatic 46) 3 36 := ⟨by decide +kernel, rfl⟩
theorem d_Txt_fitsHappening_36 : zd_k b_Txt_fitsHappening "SameTuesday$Text" 36 (-9) 38 := Or.inr (Or.inl ⟨(-9), by decide +kernel, by decide, rfl⟩)
theorem d_Txt_fitsHappening_38 : zd_b b_Txt_fitsHappening 38 (.if_icmp .eq) 41 45 := ⟨7, by decide +kernel, by decide, rfl⟩
theorem d_Txt_fitsHappening_41 : zd_k b_Txt_fitsHappening "SameTuesday$Text" 41 1 42 := Or.inl ⟨1, by decide +kernel, by decide, rfl⟩
theorem d_Txt_fitsHappening_42 : zd_b b_Txt_fitsHappening 42 .goto 45 46 := ⟨4, by decide +kernel, by decide, rfl⟩
theorem d_Txt_fitsHappening_45 : zd_k b_Txt_fitsHappening "SameTuesday$Text" 45 0 46 := Or.inl ⟨0, by decide +kernel, by decide, rfl⟩
theorem d_Txt_fitsHappening_46 : zd b_Txt_fitsHappening 46 .ireturn 1 47 := ⟨by decide +kernel, rfl⟩
theorem d_Txt_fitsHappening_47 : zd_l .iload_n .iload b_Txt_fitsHappening 47 1 48 := Or.inl ⟨1, rfl, by decide +kernel, rfl⟩
theorem d_Txt_fitsHappening_48 : zd_k b_Txt_fitsHappening "SameTuesday$Text" 48 0 49 := Or.inl ⟨0, by decide +kernel, by decide, rfl⟩
theorem d_Txt_fitsHappening_49 : zd_k b_Txt_fitsHappening "SameTuesday$Text" 49 5 50 := Or.inl ⟨5, by decide +kernel, by decide, rfl⟩
theorem d_Txt_fitsHappening_50 : zd b_Txt_fitsHappening 50 (.invokestatic 49) 3 53 := ⟨by decide +kernel, rfl⟩
theorem d_Txt_fitsHappening_53 : zd b_Txt_fitsHappening 53 .ireturn 1 54 := ⟨by decide +kernel, rfl⟩
theorem d_Txt_fitsHappening_54 : zd_l .iload_n .iload b_Txt_fitsHappening 54 1 55 := Or.inl ⟨1, rfl, by decide +kernel, rfl⟩
theorem d_Txt_fitsHappening_55 : zd_k b_Txt_fitsHappening "SameTuesday$Text" 55 0 56 := Or.inl ⟨0, by decide +kernel, by decide, rfl⟩
theorem d_Txt_fitsHappening_56 : zd_k b_Txt_fitsHappening "SameTuesday$Text" 56 9 58 := Or.inr (Or.inl ⟨9, by decide +kernel, by decide, rfl⟩)
theorem d_Txt_fitsHappening_58 : zd b_Txt_fitsHappening 58 (.invokestatic 49) 3 61 := ⟨by decide +kernel, rfl⟩
theorem d_Txt_fitsHappening_61 : zd b_Txt_fitsHappening 61 .ireturn 1 62 := ⟨by decide +kernel, rfl⟩
theorem d_Txt_fitsHappening_62 : zd_l .iload_n .iload b_Txt_fitsHappening 62 1 63 := Or.inl ⟨1, rfl, by decide +kernel, rfl⟩
theorem d_Txt_fitsHappening_63 : zd_k b_Txt_fitsHappening "SameTuesday$Text" 63 0 64 := Or.inl ⟨0, by decide +kernel, by decide, rfl⟩
theorem d_Txt_fitsHappening_64 : zd_k b_Txt_fitsHappening "SameTuesday$Text" 64 6 66 := Or.inr (Or.inl ⟨6, by decide +kernel, by decide, rfl⟩)
theorem d_Txt_fitsHappening_66 : zd b_Txt_fitsHappening 66 (.invokestatic 49) 3 69 := ⟨by decide +kernel, rfl⟩
theorem d_Txt_fitsHappening_69 : zd b_Txt_fitsHappening 69 .ireturn 1 70 := ⟨by decide +kernel, rfl⟩
theorem d_Txt_fitsHappening_70 : zd_l .iload_n .iload b_Txt_fitsHappening 70 1 71 := Or.inl ⟨1, rfl, by decide +kernel, rfl⟩
theorem d_Txt_fitsHappening_71 : zd_k b_Txt_fitsHappening "SameTuesday$Text" 71 0 72 := Or.inl ⟨0, by decide +kernel, by decide, rfl⟩
theorem d_Txt_fitsHappening_72 : zd_k b_Txt_fitsHappening "SameTuesday$Text" 72 5 73 := Or.inl ⟨5, by decide +kernel, by decide, rfl⟩
theorem d_Txt_fitsHappening_73 : zd b_Txt_fitsHappening 73 (.invokestatic 49) 3 76 := ⟨by decide +kernel, rfl⟩
theorem d_Txt_fitsHappening_76 : zd b_Txt_fitsHappening 76 .ireturn 1 77 := ⟨by decide +kernel, rfl⟩
theorem d_Txt_fitsDeed_0 : zd_l .iload_n .iload b_Txt_fitsDeed 0 0 1 := Or.inl ⟨0, rfl, by decide +kernel, rfl⟩
theorem d_Txt_fitsDeed_1 : decode b_Txt_fitsDeed 1 = .ok (.tableswitch 50 1 3 #[27, 35, 42], 27) := by decide +kernel
theorem d_Txt_fitsDeed_28 : zd_l .iload_n .iload b_Txt_fitsDeed 28 1 29 := Or.inl ⟨1, rfl, by decide +kernel, rfl⟩
theorem d_Txt_fitsDeed_29 : zd_k b_Txt_fitsDeed "SameTuesday$Text" 29 0 30 := Or.inl ⟨0, by decide +kernel, by decide, rfl⟩
theorem d_Txt_fitsDeed_30 : zd_k b_Txt_fitsDeed "SameTuesday$Text" 30 6 32 := Or.inr (Or.inl ⟨6, by decide +kernel, by decide, rfl⟩)
theorem d_Txt_fitsDeed_32 : zd b_Txt_fitsDeed 32 (.invokestatic 49) 3 35 := ⟨by decide +kernel, rfl⟩
theorem d_Txt_fitsDeed_35 : zd b_Txt_fitsDeed 35 .ireturn 1 36 := ⟨by decide +kernel, rfl⟩
theorem d_Txt_fitsDeed_36 : zd_l .iload_n .iload b_Txt_fitsDeed 36 1 37 := Or.inl ⟨1, rfl, by decide +kernel, rfl⟩
theorem d_Txt_fitsDeed_37 : zd_k b_Txt_fitsDeed "SameTuesday$Text" 37 0 38 := Or.inl ⟨0, by decide +kernel, by decide, rfl⟩
theorem d_Txt_fitsDeed_38 : zd_k b_Txt_fitsDeed "SameTuesday$Text" 38 5 39 := Or.inl ⟨5, by decide +kernel, by decide, rfl⟩
theorem d_Txt_fitsDeed_39 : zd b_Txt_fitsDeed 39 (.invokestatic 49) 3 42 := ⟨by decide +kernel, rfl⟩
theorem d_Txt_fitsDeed_42 : zd b_Txt_fitsDeed 42 .ireturn 1 43 := ⟨by decide +kernel, rfl⟩
theorem d_Txt_fitsDeed_43 : zd_l .iload_n .iload b_Txt_fitsDeed 43 1 44 := Or.inl ⟨1, rfl, by decide +kernel, rfl⟩
theorem d_Txt_fitsDeed_44 : zd_k b_Txt_fitsDeed "SameTuesday$Text" 44 0 45 := Or.inl ⟨0, by decide +kernel, by decide, rfl⟩
theorem d_Txt_fitsDeed_45 : zd_k b_Txt_fitsDeed "SameTuesday$Text" 45 6 47 := Or.inr (Or.inl ⟨6, by decide +kernel, by decide, rfl⟩)
theorem d_Txt_fitsDeed_47 : zd b_Txt_fitsDeed 47 (.invokestatic 49) 3 50 := ⟨by decide +kernel, rfl⟩
theorem d_Txt_fitsDeed_50 : zd b_Txt_fitsDeed 50 .ireturn 1 51 := ⟨by decide +kernel, rfl⟩
theorem d_Txt_fitsDeed_51 : zd_l .iload_n .iload b_Txt_fitsDeed 51 1 52 := Or.inl ⟨1, rfl, by decide +kernel, rfl⟩
theorem d_Txt_fitsDeed_52 : zd_k b_Txt_fitsDeed "SameTuesday$Text" 52 1 53 := Or.inl ⟨1, by decide +kernel, by decide, rfl⟩
theorem d_Txt_fitsDeed_53 : zd_k b_Txt_fitsDeed "SameTuesday$Text" 53 9 55 := Or.inr (Or.inl ⟨9, by decide +kernel, by decide, rfl⟩)
theorem d_Txt_fitsDeed_55 : zd b_Txt_fitsDeed 55 (.invokestatic 49) 3 58 := ⟨by decide +kernel, rfl⟩
theorem d_Txt_fitsDeed_58 : zd b_Txt_fitsDeed 58 .ireturn 1 59 := ⟨by decide +kernel, rfl⟩
theorem d_Txt_isDigit_0 : zd_l .iload_n .iload b_Txt_isDigit 0 0 1 := Or.inl ⟨0, rfl, by decide +kernel, rfl⟩
theorem d_Txt_isDigit_1 : zd_k b_Txt_isDigit "SameTuesday$Text" 1 48 3 := Or.inr (Or.inl ⟨48, by decide +kernel, by decide, rfl⟩)
theorem d_Txt_isDigit_3 : zd_l .iload_n .iload b_Txt_isDigit 3 1 4 := Or.inl ⟨1, rfl, by decide +kernel, rfl⟩
theorem d_Txt_isDigit_4 : zd b_Txt_isDigit 4 .iadd 1 5 := ⟨by decide +kernel, rfl⟩
theorem d_Txt_isDigit_5 : zd_b b_Txt_isDigit 5 (.if_icmp .lt) 8 20 := ⟨15, by decide +kernel, by decide, rfl⟩
theorem d_Txt_isDigit_8 : zd_l .iload_n .iload b_Txt_isDigit 8 0 9 := Or.inl ⟨0, rfl, by decide +kernel, rfl⟩
theorem d_Txt_isDigit_9 : zd_k b_Txt_isDigit "SameTuesday$Text" 9 48 11 := Or.inr (Or.inl ⟨48, by decide +kernel, by decide, rfl⟩)
theorem d_Txt_isDigit_11 : zd_l .iload_n .iload b_Txt_isDigit 11 2 12 := Or.inl ⟨2, rfl, by decide +kernel, rfl⟩
theorem d_Txt_isDigit_12 : zd b_Txt_isDigit 12 .iadd 1 13 := ⟨by decide +kernel, rfl⟩
theorem d_Txt_isDigit_13 : zd_b b_Txt_isDigit 13 (.if_icmp .gt) 16 20 := ⟨7, by decide +kernel, by decide, rfl⟩
theorem d_Txt_isDigit_16 : zd_k b_Txt_isDigit "SameTuesday$Text" 16 1 17 := Or.inl ⟨1, by decide +kernel, by decide, rfl⟩
theorem d_Txt_isDigit_17 : zd_b b_Txt_isDigit 17 .goto 20 21 := ⟨4, by decide +kernel, by decide, rfl⟩
theorem d_Txt_isDigit_20 : zd_k b_Txt_isDigit "SameTuesday$Text" 20 0 21 := Or.inl ⟨0, by decide +kernel, by decide, rfl⟩
theorem d_Txt_isDigit_21 : zd b_Txt_isDigit 21 .ireturn 1 22 := ⟨by decide +kernel, rfl⟩
theorem d_Txt_kindOf_0 : zd_l .iload_n .iload b_Txt_kindOf 0 0 1 := Or.inl ⟨0, rfl, by decide +kernel, rfl⟩
theorem d_Txt_kindOf_1 : decode b_Txt_kindOf 1 = .ok (.lookupswitch 41 #[(99, 39), (104, 35), (109, 37)], 35) := by decide +kernel
theorem d_Txt_kindOf_36 : zd_k b_Txt_kindOf "SameTuesday$Text" 36 0 37 := Or.inl ⟨0, by decide +kernel, by decide, rfl⟩
theorem d_Txt_kindOf_37 : zd b_Txt_kindOf 37 .ireturn 1 38 := ⟨by decide +kernel, rfl⟩
theorem d_Txt_kindOf_38 : zd_k b_Txt_kindOf "SameTuesday$Text" 38 1 39 := Or.inl ⟨1, by decide +kernel, by decide, rfl⟩
theorem d_Txt_kindOf_39 : zd b_Txt_kindOf 39 .ireturn 1 40 := ⟨by decide +kernel, rfl⟩
theorem d_Txt_kindOf_40 : zd_k b_Txt_kindOf "SameTuesday$Text" 40 2 41 := Or.inl ⟨2, by decide +kernel, by decide, rfl⟩
theorem d_Txt_kindOf_41 : zd b_Txt_kindOf 41 .ireturn 1 42 := ⟨by decide +kernel, rfl⟩
theorem d_Txt_kindOf_42 : zd_k b_Txt_kindOf "SameTuesday$Text" 42 (-9) 44 := Or.inr (Or.inl ⟨(-9), by decide +kernel, by decide, rfl⟩)
theorem d_Txt_kindOf_44 : zd b_Txt_kindOf 44 .ireturn 1 45 := ⟨by decide +kernel, rfl⟩
theorem d_Txt_codeAt_0 : zd_l .iload_n .iload b_Txt_codeAt 0 1 1 := Or.inl ⟨1, rfl, by decide +kernel, rfl⟩
theorem d_Txt_codeAt_1 : zd_b b_Txt_codeAt 1 (.ifCond .lt) 4 28 := ⟨27, by decide +kernel, by decide, rfl⟩
theorem d_Txt_codeAt_4 : zd_l .iload_n .iload b_Txt_codeAt 4 1 5 := Or.inl ⟨1, rfl, by decide +kernel, rfl⟩
theorem d_Txt_codeAt_5 : zd_l .aload_n .aload b_Txt_codeAt 5 0 6 := Or.inl ⟨0, rfl, by decide +kernel, rfl⟩
theorem d_Txt_codeAt_6 : zd b_Txt_codeAt 6 (.getfield 19) 3 9 := ⟨by decide +kernel, rfl⟩
theorem d_Txt_codeAt_9 : zd_b b_Txt_codeAt 9 (.if_icmp .ge) 12 28 := ⟨19, by decide +kernel, by decide, rfl⟩
theorem d_Txt_codeAt_12 : zd_l .aload_n .aload b_Txt_codeAt 12 0 13 := Or.inl ⟨0, rfl, by decide +kernel, rfl⟩
theorem d_Txt_codeAt_13 : zd b_Txt_codeAt 13 (.getfield 9) 3 16 := ⟨by decide +kernel, rfl⟩
theorem d_Txt_codeAt_16 : zd_l .aload_n .aload b_Txt_codeAt 16 0 17 := Or.inl ⟨0, rfl, by decide +kernel, rfl⟩
theorem d_Txt_codeAt_17 : zd b_Txt_codeAt 17 (.getfield 15) 3 20 := ⟨by decide +kernel, rfl⟩
theorem d_Txt_codeAt_20 : zd_l .iload_n .iload b_Txt_codeAt 20 1 21 := Or.inl ⟨1, rfl, by decide +kernel, rfl⟩
theorem d_Txt_codeAt_21 : zd b_Txt_codeAt 21 .iadd 1 22 := ⟨by decide +kernel, rfl⟩
theorem d_Txt_codeAt_22 : zd b_Txt_codeAt 22 (.invokevirtual 53) 3 25 := ⟨by decide +kernel, rfl⟩
theorem d_Txt_codeAt_25 : zd_b b_Txt_codeAt 25 .goto 28 29 := ⟨4, by decide +kernel, by decide, rfl⟩
theorem d_Txt_codeAt_28 : zd_k b_Txt_codeAt "SameTuesday$Text" 28 (-1) 29 := Or.inl ⟨(-1), by decide +kernel, by decide, rfl⟩
theorem d_Txt_codeAt_29 : zd b_Txt_codeAt 29 .ireturn 1 30 := ⟨by decide +kernel, rfl⟩
theorem d_Txt_digitAt_0 : zd_l .aload_n .aload b_Txt_digitAt 0 0 1 := Or.inl ⟨0, rfl, by decide +kernel, rfl⟩
theorem d_Txt_digitAt_1 : zd_l .iload_n .iload b_Txt_digitAt 1 1 2 := Or.inl ⟨1, rfl, by decide +kernel, rfl⟩
theorem d_Txt_digitAt_2 : zd b_Txt_digitAt 2 (.invokevirtual 31) 3 5 := ⟨by decide +kernel, rfl⟩
theorem d_Txt_digitAt_5 : zd_k b_Txt_digitAt "SameTuesday$Text" 5 48 7 := Or.inr (Or.inl ⟨48, by decide +kernel, by decide, rfl⟩)
theorem d_Txt_digitAt_7 : zd b_Txt_digitAt 7 .isub 1 8 := ⟨by decide +kernel, rfl⟩
theorem d_Txt_digitAt_8 : zd b_Txt_digitAt 8 .ireturn 1 9 := ⟨by decide +kernel, rfl⟩
theorem d_Txt_happeningCount_0 : zd_l .aload_n .aload b_Txt_happeningCount 0 0 1 := Or.inl ⟨0, rfl, by decide +kernel, rfl⟩
theorem d_Txt_happeningCount_1 : zd b_Txt_happeningCount 1 (.getfield 25) 3 4 := ⟨by decide +kernel, rfl⟩
theorem d_Txt_happeningCount_4 : zd b_Txt_happeningCount 4 .ireturn 1 5 := ⟨by decide +kernel, rfl⟩
theorem d_Txt_deedCount_0 : zd_l .aload_n .aload b_Txt_deedCount 0 0 1 := Or.inl ⟨0, rfl, by decide +kernel, rfl⟩
theorem d_Txt_deedCount_1 : zd b_Txt_deedCount 1 (.getfield 28) 3 4 := ⟨by decide +kernel, rfl⟩
theorem d_Txt_deedCount_4 : zd b_Txt_deedCount 4 .ireturn 1 5 := ⟨by decide +kernel, rfl⟩
theorem d_Txt_newHappening_0 : zd_k b_Txt_newHappening "SameTuesday$Text" 0 1 1 := Or.inl ⟨1, by decide +kernel, by decide, rfl⟩
theorem d_Txt_newHappening_1 : zd_k b_Txt_newHappening "SameTuesday$Text" 1 6 3 := Or.inr (Or.inl ⟨6, by decide +kernel, by decide, rfl⟩)
theorem d_Txt_newHappening_3 : zd_l .iload_n .iload b_Txt_newHappening 3 1 4 := Or.inl ⟨1, rfl, by decide +kernel, rfl⟩
theorem d_Txt_newHappening_4 : zd b_Txt_newHappening 4 .imul 1 5 := ⟨by decide +kernel, rfl⟩
theorem d_Txt_newHappening_5 : zd b_Txt_newHappening 5 .iadd 1 6 := ⟨by decide +kernel, rfl⟩
theorem d_Txt_newHappening_6 : zd_l .istore_n .istore b_Txt_newHappening 6 2 7 := Or.inl ⟨2, rfl, by decide +kernel, rfl⟩
theorem d_Txt_newHappening_7 : zd_k b_Txt_newHappening "SameTuesday$Text" 7 10 9 := Or.inr (Or.inl ⟨10, by decide +kernel, by decide, rfl⟩)
theorem d_Txt_newHappening_9 : zd_l .aload_n .aload b_Txt_newHappening 9 0 10 := Or.inl ⟨0, rfl, by decide +kernel, rfl⟩
theorem d_Txt_newHappening_10 : zd_l .iload_n .iload b_Txt_newHappening 10 2 11 := Or.inl ⟨2, rfl, by decide +kernel, rfl⟩
theorem d_Txt_newHappening_11 : zd_k b_Txt_newHappening "SameTuesday$Text" 11 2 12 := Or.inl ⟨2, by decide +kernel, by decide, rfl⟩
theorem d_Txt_newHappening_12 : zd b_Txt_newHappening 12 .iadd 1 13 := ⟨by decide +kernel, rfl⟩
theorem d_Txt_newHappening_13 : zd b_Txt_newHappening 13 (.invokevirtual 58) 3 16 := ⟨by decide +kernel, rfl⟩
theorem d_Txt_newHappening_16 : zd b_Txt_newHappening 16 .imul 1 17 := ⟨by decide +kernel, rfl⟩
theorem d_Txt_newHappening_17 : zd_l .aload_n .aload b_Txt_newHappening 17 0 18 := Or.inl ⟨0, rfl, by decide +kernel, rfl⟩
theorem d_Txt_newHappening_18 : zd_l .iload_n .iload b_Txt_newHappening 18 2 19 := Or.inl ⟨2, rfl, by decide +kernel, rfl⟩
theorem d_Txt_newHappening_19 : zd_k b_Txt_newHappening "SameTuesday$Text" 19 3 20 := Or.inl ⟨3, by decide +kernel, by decide, rfl⟩
theorem d_Txt_newHappening_20 : zd b_Txt_newHappening 20 .iadd 1 21 := ⟨by decide +kernel, rfl⟩
theorem d_Txt_newHappening_21 : zd b_Txt_newHappening 21 (.invokevirtual 58) 3 24 := ⟨by decide +kernel, rfl⟩
theorem d_Txt_newHappening_24 : zd b_Txt_newHappening 24 .iadd 1 25 := ⟨by decide +kernel, rfl⟩
theorem d_Txt_newHappening_25 : zd_l .istore_n .istore b_Txt_newHappening 25 3 26 := Or.inl ⟨3, rfl, by decide +kernel, rfl⟩
theorem d_Txt_newHappening_26 : zd_l .aload_n .aload b_Txt_newHappening 26 0 27 := Or.inl ⟨0, rfl, by decide +kernel, rfl⟩
theorem d_Txt_newHappening_27 : zd_l .iload_n .iload b_Txt_newHappening 27 2 28 := Or.inl ⟨2, rfl, by decide +kernel, rfl⟩
theorem d_Txt_newHappening_28 : zd_k b_Txt_newHappening "SameTuesday$Text" 28 4 29 := Or.inl ⟨4, by decide +kernel, by decide, rfl⟩
theorem d_Txt_newHappening_29 : zd b_Txt_newHappening 29 .iadd 1 30 := ⟨by decide +kernel, rfl⟩
theorem d_Txt_newHappening_30 : zd b_Txt_newHappening 30 (.invokevirtual 58) 3 33 := ⟨by decide +kernel, rfl⟩
theorem d_Txt_newHappening_33 : zd_l .istore_n .istore b_Txt_newHappening 33 4 35 := Or.inr ⟨by decide +kernel, rfl⟩
theorem d_Txt_newHappening_35 : zd_l .aload_n .aload b_Txt_newHappening 35 0 36 := Or.inl ⟨0, rfl, by decide +kernel, rfl⟩
theorem d_Txt_newHappening_36 : zd_l .iload_n .iload b_Txt_newHappening 36 2 37 := Or.inl ⟨2, rfl, by decide +kernel, rfl⟩
theorem d_Txt_newHappening_37 : zd_k b_Txt_newHappening "SameTuesday$Text" 37 5 38 := Or.inl ⟨5, by decide +kernel, by decide, rfl⟩
theorem d_Txt_newHappening_38 : zd b_Txt_newHappening 38 .iadd 1 39 := ⟨by decide +kernel, rfl⟩
theorem d_Txt_newHappening_39 : zd b_Txt_newHappening 39 (.invokevirtual 58) 3 42 := ⟨by decide +kernel, rfl⟩
theorem d_Txt_newHappening_42 : zd_l .istore_n .istore b_Txt_newHappening 42 5 44 := Or.inr ⟨by decide +kernel, rfl⟩
theorem d_Txt_newHappening_44 : zd_l .aload_n .aload b_Txt_newHappening 44 0 45 := Or.inl ⟨0, rfl, by decide +kernel, rfl⟩
theorem d_Txt_newHappening_45 : zd_l .iload_n .iload b_Txt_newHappening 45 2 46 := Or.inl ⟨2, rfl, by decide +kernel, rfl⟩
theorem d_Txt_newHappening_46 : zd_k b_Txt_newHappening "SameTuesday$Text" 46 1 47 := Or.inl ⟨1, by decide +kernel, by decide, rfl⟩
theorem d_Txt_newHappening_47 : zd b_Txt_newHappening 47 .iadd 1 48 := ⟨by decide +kernel, rfl⟩
theorem d_Txt_newHappening_48 : zd b_Txt_newHappening 48 (.invokevirtual 31) 3 51 := ⟨by decide +kernel, rfl⟩
theorem d_Txt_newHappening_51 : zd b_Txt_newHappening 51 (.invokestatic 46) 3 54 := ⟨by decide +kernel, rfl⟩
theorem d_Txt_newHappening_54 : decode b_Txt_newHappening 54 = .ok (.lookupswitch 54 #[(1, 26), (2, 40)], 26) := by decide +kernel
theorem d_Txt_newHappening_80 : zd b_Txt_newHappening 80 (.new 61) 3 83 := ⟨by decide +kernel, rfl⟩
theorem d_Txt_newHappening_83 : zd b_Txt_newHappening 83 .dup 1 84 := ⟨by decide +kernel, rfl⟩
theorem d_Txt_newHappening_84 : zd_l .iload_n .iload b_Txt_newHappening 84 1 85 := Or.inl ⟨1, rfl, by decide +kernel, rfl⟩
theorem d_Txt_newHappening_85 : zd_l .iload_n .iload b_Txt_newHappening 85 3 86 := Or.inl ⟨3, rfl, by decide +kernel, rfl⟩
theorem d_Txt_newHappening_86 : zd_l .iload_n .iload b_Txt_newHappening 86 4 88 := Or.inr ⟨by decide +kernel, rfl⟩
theorem d_Txt_newHappening_88 : zd_l .iload_n .iload b_Txt_newHappening 88 5 90 := Or.inr ⟨by decide +kernel, rfl⟩
theorem d_Txt_newHappening_90 : zd b_Txt_newHappening 90 (.invokespecial 63) 3 93 := ⟨by decide +kernel, rfl⟩
theorem d_Txt_newHappening_93 : zd b_Txt_newHappening 93 .areturn 1 94 := ⟨by decide +kernel, rfl⟩
theorem d_Txt_newHappening_94 : zd b_Txt_newHappening 94 (.new 66) 3 97 := ⟨by decide +kernel, rfl⟩
theorem d_Txt_newHappening_97 : zd b_Txt_newHappening 97 .dup 1 98 := ⟨by decide +kernel, rfl⟩
theorem d_Txt_newHappening_98 : zd_l .iload_n .iload b_Txt_newHappening 98 1 99 := Or.inl ⟨1, rfl, by decide +kernel, rfl⟩
theorem d_Txt_newHappening_99 : zd_l .iload_n .iload b_Txt_newHappening 99 3 100 := Or.inl ⟨3, rfl, by decide +kernel, rfl⟩
theorem d_Txt_newHappening_100 : zd_l .iload_n .iload b_Txt_newHappening 100 4 102 := Or.inr ⟨by decide +kernel, rfl⟩
theorem d_Txt_newHappening_102 : zd_l .iload_n .iload b_Txt_newHappening 102 5 104 := Or.inr ⟨by decide +kernel, rfl⟩
theorem d_Txt_newHappening_104 : zd b_Txt_newHappening 104 (.invokespecial 68) 3 107 := ⟨by decide +kernel, rfl⟩
theorem d_Txt_newHappening_107 : zd b_Txt_newHappening 107 .areturn 1 108 := ⟨by decide +kernel, rfl⟩
theorem d_Txt_newHappening_108 : zd b_Txt_newHappening 108 (.new 69) 3 111 := ⟨by decide +kernel, rfl⟩
theorem d_Txt_newHappening_111 : zd b_Txt_newHappening 111 .dup 1 112 := ⟨by decide +kernel, rfl⟩
theorem d_Txt_newHappening_112 : zd_l .iload_n .iload b_Txt_newHappening 112 1 113 := Or.inl ⟨1, rfl, by decide +kernel, rfl⟩
theorem d_Txt_newHappening_113 : zd_l .iload_n .iload b_Txt_newHappening 113 3 114 := Or.inl ⟨3, rfl, by decide +kernel, rfl⟩
theorem d_Txt_newHappening_114 : zd_l .iload_n .iload b_Txt_newHappening 114 4 116 := Or.inr ⟨by decide +kernel, rfl⟩
theorem d_Txt_newHappening_116 : zd_l .iload_n .iload b_Txt_newHappening 116 5 118 := Or.inr ⟨by decide +kernel, rfl⟩
theorem d_Txt_newHappening_118 : zd b_Txt_newHappening 118 (.invokespecial 71) 3 121 := ⟨by decide +kernel, rfl⟩
theorem d_Txt_newHappening_121 : zd b_Txt_newHappening 121 .areturn 1 122 := ⟨by decide +kernel, rfl⟩
theorem d_Txt_newDeed_0 : zd_k b_Txt_newDeed "SameTuesday$Text" 0 1 1 := Or.inl ⟨1, by decide +kernel, by decide, rfl⟩
theorem d_Txt_newDeed_1 : zd_k b_Txt_newDeed "SameTuesday$Text" 1 6 3 := Or.inr (Or.inl ⟨6, by decide +kernel, by decide, rfl⟩)
theorem d_Txt_newDeed_3 : zd_l .aload_n .aload b_Txt_newDeed 3 0 4 := Or.inl ⟨0, rfl, by decide +kernel, rfl⟩
theorem d_Txt_newDeed_4 : zd b_Txt_newDeed 4 (.getfield 25) 3 7 := ⟨by decide +kernel, rfl⟩
theorem d_Txt_newDeed_7 : zd b_Txt_newDeed 7 .imul 1 8 := ⟨by decide +kernel, rfl⟩
theorem d_Txt_newDeed_8 : zd b_Txt_newDeed 8 .iadd 1 9 := ⟨by decide +kernel, rfl⟩
theorem d_Txt_newDeed_9 : zd_k b_Txt_newDeed "SameTuesday$Text" 9 5 10 := Or.inl ⟨5, by decide +kernel, by decide, rfl⟩
theorem d_Txt_newDeed_10 : zd_l .iload_n .iload b_Txt_newDeed 10 1 11 := Or.inl ⟨1, rfl, by decide +kernel, rfl⟩
theorem d_Txt_newDeed_11 : zd b_Txt_newDeed 11 .imul 1 12 := ⟨by decide +kernel, rfl⟩
theorem d_Txt_newDeed_12 : zd b_Txt_newDeed 12 .iadd 1 13 := ⟨by decide +kernel, rfl⟩
theorem d_Txt_newDeed_13 : zd_l .istore_n .istore b_Txt_newDeed 13 2 14 := Or.inl ⟨2, rfl, by decide +kernel, rfl⟩
theorem d_Txt_newDeed_14 : zd b_Txt_newDeed 14 (.new 72) 3 17 := ⟨by decide +kernel, rfl⟩
theorem d_Txt_newDeed_17 : zd b_Txt_newDeed 17 .dup 1 18 := ⟨by decide +kernel, rfl⟩
theorem d_Txt_newDeed_18 : zd_l .aload_n .aload b_Txt_newDeed 18 0 19 := Or.inl ⟨0, rfl, by decide +kernel, rfl⟩
theorem d_Txt_newDeed_19 : zd_l .iload_n .iload b_Txt_newDeed 19 2 20 := Or.inl ⟨2, rfl, by decide +kernel, rfl⟩
theorem d_Txt_newDeed_20 : zd_k b_Txt_newDeed "SameTuesday$Text" 20 1 21 := Or.inl ⟨1, by decide +kernel, by decide, rfl⟩
theorem d_Txt_newDeed_21 : zd b_Txt_newDeed 21 .iadd 1 22 := ⟨by decide +kernel, rfl⟩
theorem d_Txt_newDeed_22 : zd b_Txt_newDeed 22 (.invokevirtual 58) 3 25 := ⟨by decide +kernel, rfl⟩
theorem d_Txt_newDeed_25 : zd_l .aload_n .aload b_Txt_newDeed 25 0 26 := Or.inl ⟨0, rfl, by decide +kernel, rfl⟩
theorem d_Txt_newDeed_26 : zd_l .iload_n .iload b_Txt_newDeed 26 2 27 := Or.inl ⟨2, rfl, by decide +kernel, rfl⟩
theorem d_Txt_newDeed_27 : zd_k b_Txt_newDeed "SameTuesday$Text" 27 2 28 := Or.inl ⟨2, by decide +kernel, by decide, rfl⟩
theorem d_Txt_newDeed_28 : zd b_Txt_newDeed 28 .iadd 1 29 := ⟨by decide +kernel, rfl⟩
theorem d_Txt_newDeed_29 : zd b_Txt_newDeed 29 (.invokevirtual 58) 3 32 := ⟨by decide +kernel, rfl⟩
theorem d_Txt_newDeed_32 : zd_l .aload_n .aload b_Txt_newDeed 32 0 33 := Or.inl ⟨0, rfl, by decide +kernel, rfl⟩
theorem d_Txt_newDeed_33 : zd_l .iload_n .iload b_Txt_newDeed 33 2 34 := Or.inl ⟨2, rfl, by decide +kernel, rfl⟩
theorem d_Txt_newDeed_34 : zd_k b_Txt_newDeed "SameTuesday$Text" 34 3 35 := Or.inl ⟨3, by decide +kernel, by decide, rfl⟩
theorem d_Txt_newDeed_35 : zd b_Txt_newDeed 35 .iadd 1 36 := ⟨by decide +kernel, rfl⟩
theorem d_Txt_newDeed_36 : zd b_Txt_newDeed 36 (.invokevirtual 58) 3 39 := ⟨by decide +kernel, rfl⟩
theorem d_Txt_newDeed_39 : zd_l .aload_n .aload b_Txt_newDeed 39 0 40 := Or.inl ⟨0, rfl, by decide +kernel, rfl⟩
theorem d_Txt_newDeed_40 : zd_l .iload_n .iload b_Txt_newDeed 40 2 41 := Or.inl ⟨2, rfl, by decide +kernel, rfl⟩
theorem d_Txt_newDeed_41 : zd_k b_Txt_newDeed "SameTuesday$Text" 41 4 42 := Or.inl ⟨4, by decide +kernel, by decide, rfl⟩
theorem d_Txt_newDeed_42 : zd b_Txt_newDeed 42 .iadd 1 43 := ⟨by decide +kernel, rfl⟩
theorem d_Txt_newDeed_43 : zd b_Txt_newDeed 43 (.invokevirtual 58) 3 46 := ⟨by decide +kernel, rfl⟩
theorem d_Txt_newDeed_46 : zd b_Txt_newDeed 46 (.invokespecial 74) 3 49 := ⟨by decide +kernel, rfl⟩
theorem d_Txt_newDeed_49 : zd b_Txt_newDeed 49 .areturn 1 50 := ⟨by decide +kernel, rfl⟩
set_option maxRecDepth 20000 in
theorem f_Twn_11_9 : zb_FL "SameTuesday$Town" 11 9 0 := ⟨"SameTuesday$Town", zF_Twn, 6, "SameTuesday$Town", rfl, by decide, zi_Twn, zb_mem 103 rfl rfl, Or.inl rfl⟩
set_option maxRecDepth 20000 in
theorem p_Twn_11_9 : zb_PF "SameTuesday$Town" 11 9 0 (.array (.object "SameTuesday$Happening")) := ⟨"SameTuesday$Town", zF_Twn, 6, "SameTuesday$Town", zt_Twn, rfl, by decide, zi_Twn, zb_mem 103 rfl rfl, Or.inl rfl, zk_Twn, zn_Twn, rfl, rfl, rfl⟩
set_option maxRecDepth 20000 in
theorem f_Twn_19_9 : zb_FL "SameTuesday$Town" 19 9 1 := ⟨"SameTuesday$Town", zF_Twn, 6, "SameTuesday$Town", rfl, by decide, zi_Twn, zb_mem 104 rfl rfl, Or.inl rfl⟩
set_option maxRecDepth 20000 in
theorem p_Twn_19_9 : zb_PF "SameTuesday$Town" 19 9 1 (.array (.object "SameTuesday$Deed")) := ⟨"SameTuesday$Town", zF_Twn, 6, "SameTuesday$Town", zt_Twn, rfl, by decide, zi_Twn, zb_mem 104 rfl rfl, Or.inl rfl, zk_Twn, zn_Twn, rfl, rfl, rfl⟩
set_option maxRecDepth 20000 in
theorem f_Twn_23_9 : zb_FL "SameTuesday$Town" 23 9 2 := ⟨"SameTuesday$Town", zF_Twn, 6, "SameTuesday$Town", rfl, by decide, zi_Twn, zb_mem 105 rfl rfl, Or.inl rfl⟩
set_option maxRecDepth 20000 in
theorem p_Twn_23_9 : zb_PL "SameTuesday$Town" 23 9 2 .int := ⟨"SameTuesday$Town", zF_Twn, 6, "SameTuesday$Town", zt_Twn, rfl, by decide, zi_Twn, zb_mem 105 rfl rfl, Or.inl rfl, zk_Twn, zn_Twn, rfl, rfl⟩
set_option maxRecDepth 20000 in
theorem f_Twn_27_9 : zb_FL "SameTuesday$Town" 27 9 3 := ⟨"SameTuesday$Town", zF_Twn, 6, "SameTuesday$Town", rfl, by decide, zi_Twn, zb_mem 106 rfl rfl, Or.inl rfl⟩
set_option maxRecDepth 20000 in
theorem p_Twn_27_9 : zb_PL "SameTuesday$Town" 27 9 3 .int := ⟨"SameTuesday$Town", zF_Twn, 6, "SameTuesday$Town", zt_Twn, rfl, by decide, zi_Twn, zb_mem 106 rfl rfl, Or.inl rfl, zk_Twn, zn_Twn, rfl, rfl⟩
set_option maxRecDepth 20000 in
theorem f_Twn_30_9 : zb_FL "SameTuesday$Town" 30 9 4 := ⟨"SameTuesday$Town", zF_Twn, 6, "SameTuesday$Town", rfl, by decide, zi_Twn, zb_mem 107 rfl rfl, Or.inl rfl⟩
set_option maxRecDepth 20000 in
theorem p_Twn_30_9 : zb_PL "SameTuesday$Town" 30 9 4 .int := ⟨"SameTuesday$Town", zF_Twn, 6, "SameTuesday$Town", zt_Twn, rfl, by decide, zi_Twn, zb_mem 107 rfl rfl, Or.inl rfl, zk_Twn, zn_Twn, rfl, rfl⟩
set_option maxRecDepth 20000 in
theorem f_Twn_33_9 : zb_FL "SameTuesday$Town" 33 9 5 := ⟨"SameTuesday$Town", zF_Twn, 6, "SameTuesday$Town", rfl, by decide, zi_Twn, zb_mem 108 rfl rfl, Or.inl rfl⟩
set_option maxRecDepth 20000 in
theorem p_Twn_33_9 : zb_PL "SameTuesday$Town" 33 9 5 .long := ⟨"SameTuesday$Town", zF_Twn, 6, "SameTuesday$Town", zt_Twn, rfl, by decide, zi_Twn, zb_mem 108 rfl rfl, Or.inl rfl, zk_Twn, zn_Twn, rfl, rfl⟩
set_option maxRecDepth 20000 in
theorem f_Twn_64_2 : zb_FL "SameTuesday$Town" 64 2 5 := ⟨"SameTuesday$Happening", zF_Hap, 6, "SameTuesday$Happening", rfl, by decide, zi_Hap, zb_mem 371 rfl rfl, Or.inl rfl⟩
set_option maxRecDepth 20000 in
theorem p_Twn_64_2 : zb_PL "SameTuesday$Town" 64 2 5 .int := ⟨"SameTuesday$Happening", zF_Hap, 6, "SameTuesday$Happening", zt_Hap, rfl, by decide, zi_Hap, zb_mem 371 rfl rfl, Or.inl rfl, zk_Hap, zn_Hap, rfl, rfl⟩
set_option maxRecDepth 20000 in
theorem f_Twn_64_5 : zb_FL "SameTuesday$Town" 64 5 5 := ⟨"SameTuesday$Mishap", zF_Mis, 6, "SameTuesday$Happening", rfl, by decide, zi_Mis, zb_mem 371 rfl rfl, Or.inl rfl⟩
set_option maxRecDepth 20000 in
theorem p_Twn_64_5 : zb_PL "SameTuesday$Town" 64 5 5 .int := ⟨"SameTuesday$Mishap", zF_Mis, 6, "SameTuesday$Happening", zt_Mis, rfl, by decide, zi_Mis, zb_mem 371 rfl rfl, Or.inl rfl, zk_Mis, zn_Mis, rfl, rfl⟩
set_option maxRecDepth 20000 in
theorem f_Twn_64_0 : zb_FL "SameTuesday$Town" 64 0 5 := ⟨"SameTuesday$Caprice", zF_Cap, 6, "SameTuesday$Happening", rfl, by decide, zi_Cap, zb_mem 371 rfl rfl, Or.inl rfl⟩
set_option maxRecDepth 20000 in
theorem p_Twn_64_0 : zb_PL "SameTuesday$Town" 64 0 5 .int := ⟨"SameTuesday$Caprice", zF_Cap, 6, "SameTuesday$Happening", zt_Cap, rfl, by decide, zi_Cap, zb_mem 371 rfl rfl, Or.inl rfl, zk_Cap, zn_Cap, rfl, rfl⟩
set_option maxRecDepth 20000 in
theorem f_Twn_71_1 : zb_FL "SameTuesday$Town" 71 1 3 := ⟨"SameTuesday$Deed", zF_Deed, 5, "SameTuesday$Deed", rfl, by decide, zi_Deed, zb_mem 434 rfl rfl, Or.inl rfl⟩
set_option maxRecDepth 20000 in
theorem f_Twn_74_1 : zb_FL "SameTuesday$Town" 74 1 4 := ⟨"SameTuesday$Deed", zF_Deed, 5, "SameTuesday$Deed", rfl, by decide, zi_Deed, zb_mem 436 rfl rfl, Or.inl rfl⟩
set_option maxRecDepth 20000 in
theorem l_Twn_37 : zl_V "SameTuesday$Town" 37 y_Txt_happeningCount b_Txt_happeningCount 1 (some .int) 0 := ⟨⟨zb_mem 321 rfl rfl, zb_mem 58 rfl rfl, zb_mem 324 rfl rfl, by decide, by decide +kernel⟩, zb_mem 322 rfl rfl, zb_mem 323 rfl rfl⟩
set_option maxRecDepth 20000 in
theorem l_Twn_48 : zl_V "SameTuesday$Town" 48 y_Txt_newHappening b_Txt_newHappening 6 (some (.object "SameTuesday$Happening")) 1 := ⟨⟨zb_mem 328 rfl rfl, zb_mem 58 rfl rfl, zb_mem 331 rfl rfl, by decide, by decide +kernel⟩, zb_mem 329 rfl rfl, zb_mem 330 rfl rfl⟩
set_option maxRecDepth 20000 in
theorem l_Twn_52 : zl_V "SameTuesday$Town" 52 y_Txt_deedCount b_Txt_deedCount 1 (some .int) 0 := ⟨⟨zb_mem 409 rfl rfl, zb_mem 58 rfl rfl, zb_mem 412 rfl rfl, by decide, by decide +kernel⟩, zb_mem 410 rfl rfl, zb_mem 411 rfl rfl⟩
set_option maxRecDepth 20000 in
theorem l_Twn_54 : zl_V "SameTuesday$Town" 54 y_Txt_newDeed b_Txt_newDeed 3 (some (.object "SameTuesday$Deed")) 1 := ⟨⟨zb_mem 413 rfl rfl, zb_mem 58 rfl rfl, zb_mem 416 rfl rfl, by decide, by decide +kernel⟩, zb_mem 414 rfl rfl, zb_mem 415 rfl rfl⟩
set_option maxRecDepth 20000 in
theorem l_Twn_58 : zl_V "SameTuesday$Town" 58 y_Twn_noteEvents b_Twn_noteEvents 3 none 0 := ⟨⟨zb_mem 448 rfl rfl, zb_mem 52 rfl rfl, zb_mem 451 rfl rfl, by decide, by decide +kernel⟩, zb_mem 450 rfl rfl, zb_mem 6 rfl rfl⟩
set_option maxRecDepth 20000 in
theorem l_Twn_61 : zl_V "SameTuesday$Town" 61 y_Twn_happeningOf b_Twn_happeningOf 2 (some (.object "SameTuesday$Happening")) 1 := ⟨⟨zb_mem 452 rfl rfl, zb_mem 52 rfl rfl, zb_mem 455 rfl rfl, by decide, by decide +kernel⟩, zb_mem 453 rfl rfl, zb_mem 454 rfl rfl⟩
theorem d_Twn_init_0 : zd_l .aload_n .aload b_Twn_init 0 0 1 := Or.inl ⟨0, rfl, by decide +kernel, rfl⟩
theorem d_Twn_init_1 : zd b_Twn_init 1 (.invokespecial 3) 3 4 := ⟨by decide +kernel, rfl⟩
theorem d_Twn_init_4 : zd_l .aload_n .aload b_Twn_init 4 0 5 := Or.inl ⟨0, rfl, by decide +kernel, rfl⟩
theorem d_Twn_init_5 : zd_k b_Twn_init "SameTuesday$Town" 5 6 7 := Or.inr (Or.inl ⟨6, by decide +kernel, by decide, rfl⟩)
theorem d_Twn_init_7 : zd b_Twn_init 7 (.anewarray 9) 3 10 := ⟨by decide +kernel, rfl⟩
theorem d_Twn_init_10 : zd b_Twn_init 10 (.putfield 11) 3 13 := ⟨by decide +kernel, rfl⟩
theorem d_Twn_init_13 : zd_l .aload_n .aload b_Twn_init 13 0 14 := Or.inl ⟨0, rfl, by decide +kernel, rfl⟩
theorem d_Twn_init_14 : zd_k b_Twn_init "SameTuesday$Town" 14 5 15 := Or.inl ⟨5, by decide +kernel, by decide, rfl⟩
theorem d_Twn_init_15 : zd b_Twn_init 15 (.anewarray 17) 3 18 := ⟨by decide +kernel, rfl⟩
theorem d_Twn_init_18 : zd b_Twn_init 18 (.putfield 19) 3 21 := ⟨by decide +kernel, rfl⟩
theorem d_Twn_init_21 : zd_l .aload_n .aload b_Twn_init 21 0 22 := Or.inl ⟨0, rfl, by decide +kernel, rfl⟩
theorem d_Twn_init_22 : zd_k b_Twn_init "SameTuesday$Town" 22 0 23 := Or.inl ⟨0, by decide +kernel, by decide, rfl⟩
theorem d_Twn_init_23 : zd b_Twn_init 23 (.putfield 23) 3 26 := ⟨by decide +kernel, rfl⟩
theorem d_Twn_init_26 : zd_l .aload_n .aload b_Twn_init 26 0 27 := Or.inl ⟨0, rfl, by decide +kernel, rfl⟩
theorem d_Twn_init_27 : zd_k b_Twn_init "SameTuesday$Town" 27 0 28 := Or.inl ⟨0, by decide +kernel, by decide, rfl⟩
theorem d_Twn_init_28 : zd b_Twn_init 28 (.putfield 27) 3 31 := ⟨by decide +kernel, rfl⟩
theorem d_Twn_init_31 : zd_l .aload_n .aload b_Twn_init 31 0 32 := Or.inl ⟨0, rfl, by decide +kernel, rfl⟩
theorem d_Twn_init_32 : zd_k b_Twn_init "SameTuesday$Town" 32 0 33 := Or.inl ⟨0, by decide +kernel, by decide, rfl⟩
theorem d_Twn_init_33 : zd b_Twn_init 33 (.putfield 30) 3 36 := ⟨by decide +kernel, rfl⟩
theorem d_Twn_init_36 : zd_l .aload_n .aload b_Twn_init 36 0 37 := Or.inl ⟨0, rfl, by decide +kernel, rfl⟩
theorem d_Twn_init_37 : zd_kl b_Twn_init "SameTuesday$Town" 37 0 38 := Or.inl ⟨0, by decide +kernel, by decide, rfl⟩
theorem d_Twn_init_38 : zd b_Twn_init 38 (.putfield 33) 3 41 := ⟨by decide +kernel, rfl⟩
theorem d_Twn_init_41 : zd b_Twn_init 41 .return_ 1 42 := ⟨by decide +kernel, rfl⟩
theorem d_Twn_retell_0 : zd_l .aload_n .aload b_Twn_retell 0 0 1 := Or.inl ⟨0, rfl, by decide +kernel, rfl⟩
theorem d_Twn_retell_1 : zd_l .aload_n .aload b_Twn_retell 1 1 2 := Or.inl ⟨1, rfl, by decide +kernel, rfl⟩
theorem d_Twn_retell_2 : zd b_Twn_retell 2 (.invokevirtual 37) 3 5 := ⟨by decide +kernel, rfl⟩
theorem d_Twn_retell_5 : zd_l .aload_n .aload b_Twn_retell 5 0 6 := Or.inl ⟨0, rfl, by decide +kernel, rfl⟩
theorem d_Twn_retell_6 : zd b_Twn_retell 6 (.getfield 11) 3 9 := ⟨by decide +kernel, rfl⟩
theorem d_Twn_retell_9 : zd b_Twn_retell 9 .arraylength 1 10 := ⟨by decide +kernel, rfl⟩
theorem d_Twn_retell_10 : zd b_Twn_retell 10 (.invokestatic 42) 3 13 := ⟨by decide +kernel, rfl⟩
theorem d_Twn_retell_13 : zd b_Twn_retell 13 (.putfield 23) 3 16 := ⟨by decide +kernel, rfl⟩
theorem d_Twn_retell_16 : zd_k b_Twn_retell "SameTuesday$Town" 16 0 17 := Or.inl ⟨0, by decide +kernel, by decide, rfl⟩
theorem d_Twn_retell_17 : zd_l .istore_n .istore b_Twn_retell 17 2 18 := Or.inl ⟨2, rfl, by decide +kernel, rfl⟩
theorem d_Twn_retell_18 : zd_l .iload_n .iload b_Twn_retell 18 2 19 := Or.inl ⟨2, rfl, by decide +kernel, rfl⟩
theorem d_Twn_retell_19 : zd_l .aload_n .aload b_Twn_retell 19 0 20 := Or.inl ⟨0, rfl, by decide +kernel, rfl⟩
theorem d_Twn_retell_20 : zd b_Twn_retell 20 (.getfield 23) 3 23 := ⟨by decide +kernel, rfl⟩
theorem d_Twn_retell_23 : zd_b b_Twn_retell 23 (.if_icmp .ge) 26 43 := ⟨20, by decide +kernel, by decide, rfl⟩
theorem d_Twn_retell_26 : zd_l .aload_n .aload b_Twn_retell 26 0 27 := Or.inl ⟨0, rfl, by decide +kernel, rfl⟩
theorem d_Twn_retell_27 : zd b_Twn_retell 27 (.getfield 11) 3 30 := ⟨by decide +kernel, rfl⟩
theorem d_Twn_retell_30 : zd_l .iload_n .iload b_Twn_retell 30 2 31 := Or.inl ⟨2, rfl, by decide +kernel, rfl⟩
theorem d_Twn_retell_31 : zd_l .aload_n .aload b_Twn_retell 31 1 32 := Or.inl ⟨1, rfl, by decide +kernel, rfl⟩
theorem d_Twn_retell_32 : zd_l .iload_n .iload b_Twn_retell 32 2 33 := Or.inl ⟨2, rfl, by decide +kernel, rfl⟩
theorem d_Twn_retell_33 : zd b_Twn_retell 33 (.invokevirtual 48) 3 36 := ⟨by decide +kernel, rfl⟩
theorem d_Twn_retell_36 : zd b_Twn_retell 36 .aastore 1 37 := ⟨by decide +kernel, rfl⟩
theorem d_Twn_retell_37 : zd_i b_Twn_retell 37 2 1 1 40 := ⟨by decide +kernel, by decide, rfl⟩
theorem d_Twn_retell_40 : zd_b b_Twn_retell 40 .goto 43 18 := ⟨(-22), by decide +kernel, by decide, rfl⟩
theorem d_Twn_retell_43 : zd_l .aload_n .aload b_Twn_retell 43 0 44 := Or.inl ⟨0, rfl, by decide +kernel, rfl⟩
theorem d_Twn_retell_44 : zd_l .aload_n .aload b_Twn_retell 44 1 45 := Or.inl ⟨1, rfl, by decide +kernel, rfl⟩
theorem d_Twn_retell_45 : zd b_Twn_retell 45 (.invokevirtual 52) 3 48 := ⟨by decide +kernel, rfl⟩
theorem d_Twn_retell_48 : zd_l .aload_n .aload b_Twn_retell 48 0 49 := Or.inl ⟨0, rfl, by decide +kernel, rfl⟩
theorem d_Twn_retell_49 : zd b_Twn_retell 49 (.getfield 19) 3 52 := ⟨by decide +kernel, rfl⟩
theorem d_Twn_retell_52 : zd b_Twn_retell 52 .arraylength 1 53 := ⟨by decide +kernel, rfl⟩
theorem d_Twn_retell_53 : zd b_Twn_retell 53 (.invokestatic 42) 3 56 := ⟨by decide +kernel, rfl⟩
theorem d_Twn_retell_56 : zd b_Twn_retell 56 (.putfield 27) 3 59 := ⟨by decide +kernel, rfl⟩
theorem d_Twn_retell_59 : zd_k b_Twn_retell "SameTuesday$Town" 59 0 60 := Or.inl ⟨0, by decide +kernel, by decide, rfl⟩
theorem d_Twn_retell_60 : zd_l .istore_n .istore b_Twn_retell 60 2 61 := Or.inl ⟨2, rfl, by decide +kernel, rfl⟩
theorem d_Twn_retell_61 : zd_l .iload_n .iload b_Twn_retell 61 2 62 := Or.inl ⟨2, rfl, by decide +kernel, rfl⟩
theorem d_Twn_retell_62 : zd_l .aload_n .aload b_Twn_retell 62 0 63 := Or.inl ⟨0, rfl, by decide +kernel, rfl⟩
theorem d_Twn_retell_63 : zd b_Twn_retell 63 (.getfield 27) 3 66 := ⟨by decide +kernel, rfl⟩
theorem d_Twn_retell_66 : zd_b b_Twn_retell 66 (.if_icmp .ge) 69 86 := ⟨20, by decide +kernel, by decide, rfl⟩
theorem d_Twn_retell_69 : zd_l .aload_n .aload b_Twn_retell 69 0 70 := Or.inl ⟨0, rfl, by decide +kernel, rfl⟩
theorem d_Twn_retell_70 : zd b_Twn_retell 70 (.getfield 19) 3 73 := ⟨by decide +kernel, rfl⟩
theorem d_Twn_retell_73 : zd_l .iload_n .iload b_Twn_retell 73 2 74 := Or.inl ⟨2, rfl, by decide +kernel, rfl⟩
theorem d_Twn_retell_74 : zd_l .aload_n .aload b_Twn_retell 74 1 75 := Or.inl ⟨1, rfl, by decide +kernel, rfl⟩
theorem d_Twn_retell_75 : zd_l .iload_n .iload b_Twn_retell 75 2 76 := Or.inl ⟨2, rfl, by decide +kernel, rfl⟩
theorem d_Twn_retell_76 : zd b_Twn_retell 76 (.invokevirtual 54) 3 79 := ⟨by decide +kernel, rfl⟩
theorem d_Twn_retell_79 : zd b_Twn_retell 79 .aastore 1 80 := ⟨by decide +kernel, rfl⟩
theorem d_Twn_retell_80 : zd_i b_Twn_retell 80 2 1 1 83 := ⟨by decide +kernel, by decide, rfl⟩
theorem d_Twn_retell_83 : zd_b b_Twn_retell 83 .goto 86 61 := ⟨(-22), by decide +kernel, by decide, rfl⟩
theorem d_Twn_retell_86 : zd_l .aload_n .aload b_Twn_retell 86 0 87 := Or.inl ⟨0, rfl, by decide +kernel, rfl⟩
theorem d_Twn_retell_87 : zd_k b_Twn_retell "SameTuesday$Town" 87 60 89 := Or.inr (Or.inl ⟨60, by decide +kernel, by decide, rfl⟩)
theorem d_Twn_retell_89 : zd b_Twn_retell 89 (.putfield 30) 3 92 := ⟨by decide +kernel, rfl⟩
theorem d_Twn_retell_92 : zd_l .aload_n .aload b_Twn_retell 92 0 93 := Or.inl ⟨0, rfl, by decide +kernel, rfl⟩
theorem d_Twn_retell_93 : zd b_Twn_retell 93 (.invokevirtual 58) 3 96 := ⟨by decide +kernel, rfl⟩
theorem d_Twn_retell_96 : zd b_Twn_retell 96 .return_ 1 97 := ⟨by decide +kernel, rfl⟩
theorem d_Twn_noteEvents_0 : zd_l .aload_n .aload b_Twn_noteEvents 0 0 1 := Or.inl ⟨0, rfl, by decide +kernel, rfl⟩
theorem d_Twn_noteEvents_1 : zd_kl b_Twn_noteEvents "SameTuesday$Town" 1 0 2 := Or.inl ⟨0, by decide +kernel, by decide, rfl⟩
theorem d_Twn_noteEvents_2 : zd b_Twn_noteEvents 2 (.putfield 33) 3 5 := ⟨by decide +kernel, rfl⟩
theorem d_Twn_noteEvents_5 : zd_k b_Twn_noteEvents "SameTuesday$Town" 5 0 6 := Or.inl ⟨0, by decide +kernel, by decide, rfl⟩
theorem d_Twn_noteEvents_6 : zd_l .istore_n .istore b_Twn_noteEvents 6 1 7 := Or.inl ⟨1, rfl, by decide +kernel, rfl⟩
theorem d_Twn_noteEvents_7 : zd_l .iload_n .iload b_Twn_noteEvents 7 1 8 := Or.inl ⟨1, rfl, by decide +kernel, rfl⟩
theorem d_Twn_noteEvents_8 : zd_l .aload_n .aload b_Twn_noteEvents 8 0 9 := Or.inl ⟨0, rfl, by decide +kernel, rfl⟩
theorem d_Twn_noteEvents_9 : zd b_Twn_noteEvents 9 (.getfield 23) 3 12 := ⟨by decide +kernel, rfl⟩
theorem d_Twn_noteEvents_12 : zd_b b_Twn_noteEvents 12 (.if_icmp .ge) 15 46 := ⟨34, by decide +kernel, by decide, rfl⟩
theorem d_Twn_noteEvents_15 : zd_l .aload_n .aload b_Twn_noteEvents 15 0 16 := Or.inl ⟨0, rfl, by decide +kernel, rfl⟩
theorem d_Twn_noteEvents_16 : zd_l .iload_n .iload b_Twn_noteEvents 16 1 17 := Or.inl ⟨1, rfl, by decide +kernel, rfl⟩
theorem d_Twn_noteEvents_17 : zd b_Twn_noteEvents 17 (.invokevirtual 61) 3 20 := ⟨by decide +kernel, rfl⟩
theorem d_Twn_noteEvents_20 : zd_l .astore_n .astore b_Twn_noteEvents 20 2 21 := Or.inl ⟨2, rfl, by decide +kernel, rfl⟩
theorem d_Twn_noteEvents_21 : zd_l .aload_n .aload b_Twn_noteEvents 21 2 22 := Or.inl ⟨2, rfl, by decide +kernel, rfl⟩
theorem d_Twn_noteEvents_22 : zd_b b_Twn_noteEvents 22 .ifnull 25 40 := ⟨18, by decide +kernel, by decide, rfl⟩
theorem d_Twn_noteEvents_25 : zd_l .aload_n .aload b_Twn_noteEvents 25 0 26 := Or.inl ⟨0, rfl, by decide +kernel, rfl⟩
theorem d_Twn_noteEvents_26 : zd b_Twn_noteEvents 26 .dup 1 27 := ⟨by decide +kernel, rfl⟩
theorem d_Twn_noteEvents_27 : zd b_Twn_noteEvents 27 (.getfield 33) 3 30 := ⟨by decide +kernel, rfl⟩
theorem d_Twn_noteEvents_30 : zd_kl b_Twn_noteEvents "SameTuesday$Town" 30 1 31 := Or.inl ⟨1, by decide +kernel, by decide, rfl⟩
theorem d_Twn_noteEvents_31 : zd_l .aload_n .aload b_Twn_noteEvents 31 2 32 := Or.inl ⟨2, rfl, by decide +kernel, rfl⟩
theorem d_Twn_noteEvents_32 : zd b_Twn_noteEvents 32 (.getfield 64) 3 35 := ⟨by decide +kernel, rfl⟩
theorem d_Twn_noteEvents_35 : zd b_Twn_noteEvents 35 .lshl 1 36 := ⟨by decide +kernel, rfl⟩
theorem d_Twn_noteEvents_36 : zd b_Twn_noteEvents 36 .lor 1 37 := ⟨by decide +kernel, rfl⟩
theorem d_Twn_noteEvents_37 : zd b_Twn_noteEvents 37 (.putfield 33) 3 40 := ⟨by decide +kernel, rfl⟩
theorem d_Twn_noteEvents_40 : zd_i b_Twn_noteEvents 40 1 1 1 43 := ⟨by decide +kernel, by decide, rfl⟩
theorem d_Twn_noteEvents_43 : zd_b b_Twn_noteEvents 43 .goto 46 7 := ⟨(-36), by decide +kernel, by decide, rfl⟩
theorem d_Twn_noteEvents_46 : zd b_Twn_noteEvents 46 .return_ 1 47 := ⟨by decide +kernel, rfl⟩
theorem d_Twn_isTold_0 : zd_l .aload_n .aload b_Twn_isTold 0 0 1 := Or.inl ⟨0, rfl, by decide +kernel, rfl⟩
theorem d_Twn_isTold_1 : zd b_Twn_isTold 1 (.getfield 23) 3 4 := ⟨by decide +kernel, rfl⟩
theorem d_Twn_isTold_4 : zd_b b_Twn_isTold 4 (.ifCond .le) 7 11 := ⟨7, by decide +kernel, by decide, rfl⟩
theorem d_Twn_isTold_7 : zd_k b_Twn_isTold "SameTuesday$Town" 7 1 8 := Or.inl ⟨1, by decide +kernel, by decide, rfl⟩
theorem d_Twn_isTold_8 : zd_b b_Twn_isTold 8 .goto 11 12 := ⟨4, by decide +kernel, by decide, rfl⟩
theorem d_Twn_isTold_11 : zd_k b_Twn_isTold "SameTuesday$Town" 11 0 12 := Or.inl ⟨0, by decide +kernel, by decide, rfl⟩
theorem d_Twn_isTold_12 : zd b_Twn_isTold 12 .ireturn 1 13 := ⟨by decide +kernel, rfl⟩
theorem d_Twn_happeningCount_0 : zd_l .aload_n .aload b_Twn_happeningCount 0 0 1 := Or.inl ⟨0, rfl, by decide +kernel, rfl⟩
theorem d_Twn_happeningCount_1 : zd b_Twn_happeningCount 1 (.getfield 23) 3 4 := ⟨by decide +kernel, rfl⟩
theorem d_Twn_happeningCount_4 : zd b_Twn_happeningCount 4 .ireturn 1 5 := ⟨by decide +kernel, rfl⟩
theorem d_Twn_deedCount_0 : zd_l .aload_n .aload b_Twn_deedCount 0 0 1 := Or.inl ⟨0, rfl, by decide +kernel, rfl⟩
theorem d_Twn_deedCount_1 : zd b_Twn_deedCount 1 (.getfield 27) 3 4 := ⟨by decide +kernel, rfl⟩
theorem d_Twn_deedCount_4 : zd b_Twn_deedCount 4 .ireturn 1 5 := ⟨by decide +kernel, rfl⟩
theorem d_Twn_minuteCount_0 : zd_l .aload_n .aload b_Twn_minuteCount 0 0 1 := Or.inl ⟨0, rfl, by decide +kernel, rfl⟩
theorem d_Twn_minuteCount_1 : zd b_Twn_minuteCount 1 (.getfield 30) 3 4 := ⟨by decide +kernel, rfl⟩
theorem d_Twn_minuteCount_4 : zd b_Twn_minuteCount 4 .ireturn 1 5 := ⟨by decide +kernel, rfl⟩
theorem d_Twn_minuteInDay_0 : zd_l .iload_n .iload b_Twn_minuteInDay 0 1 1 := Or.inl ⟨1, rfl, by decide +kernel, rfl⟩
theorem d_Twn_minuteInDay_1 : zd_l .aload_n .aload b_Twn_minuteInDay 1 0 2 := Or.inl ⟨0, rfl, by decide +kernel, rfl⟩
theorem d_Twn_minuteInDay_2 : zd b_Twn_minuteInDay 2 (.getfield 30) 3 5 := ⟨by decide +kernel, rfl⟩
theorem d_Twn_minuteInDay_5 : zd_k b_Twn_minuteInDay "SameTuesday$Town" 5 1 6 := Or.inl ⟨1, by decide +kernel, by decide, rfl⟩
theorem d_Twn_minuteInDay_6 : zd b_Twn_minuteInDay 6 .isub 1 7 := ⟨by decide +kernel, rfl⟩
theorem d_Twn_minuteInDay_7 : zd b_Twn_minuteInDay 7 (.invokestatic 42) 3 10 := ⟨by decide +kernel, rfl⟩
theorem d_Twn_minuteInDay_10 : zd b_Twn_minuteInDay 10 .ireturn 1 11 := ⟨by decide +kernel, rfl⟩
theorem d_Twn_setMinutes_0 : zd_l .aload_n .aload b_Twn_setMinutes 0 0 1 := Or.inl ⟨0, rfl, by decide +kernel, rfl⟩
theorem d_Twn_setMinutes_1 : zd_l .iload_n .iload b_Twn_setMinutes 1 1 2 := Or.inl ⟨1, rfl, by decide +kernel, rfl⟩
theorem d_Twn_setMinutes_2 : zd b_Twn_setMinutes 2 (.putfield 30) 3 5 := ⟨by decide +kernel, rfl⟩
theorem d_Twn_setMinutes_5 : zd b_Twn_setMinutes 5 .return_ 1 6 := ⟨by decide +kernel, rfl⟩
theorem d_Twn_moveTo_0 : zd_l .aload_n .aload b_Twn_moveTo 0 1 1 := Or.inl ⟨1, rfl, by decide +kernel, rfl⟩
theorem d_Twn_moveTo_1 : zd_l .iload_n .iload b_Twn_moveTo 1 2 2 := Or.inl ⟨2, rfl, by decide +kernel, rfl⟩
theorem d_Twn_moveTo_2 : zd b_Twn_moveTo 2 (.putfield 64) 3 5 := ⟨by decide +kernel, rfl⟩
theorem d_Twn_moveTo_5 : zd_l .aload_n .aload b_Twn_moveTo 5 0 6 := Or.inl ⟨0, rfl, by decide +kernel, rfl⟩
theorem d_Twn_moveTo_6 : zd b_Twn_moveTo 6 (.invokevirtual 58) 3 9 := ⟨by decide +kernel, rfl⟩
theorem d_Twn_moveTo_9 : zd b_Twn_moveTo 9 .return_ 1 10 := ⟨by decide +kernel, rfl⟩
theorem d_Twn_happeningOf_0 : zd_l .iload_n .iload b_Twn_happeningOf 0 1 1 := Or.inl ⟨1, rfl, by decide +kernel, rfl⟩
theorem d_Twn_happeningOf_1 : zd_b b_Twn_happeningOf 1 (.ifCond .lt) 4 30 := ⟨29, by decide +kernel, by decide, rfl⟩
theorem d_Twn_happeningOf_4 : zd_l .iload_n .iload b_Twn_happeningOf 4 1 5 := Or.inl ⟨1, rfl, by decide +kernel, rfl⟩
theorem d_Twn_happeningOf_5 : zd_l .aload_n .aload b_Twn_happeningOf 5 0 6 := Or.inl ⟨0, rfl, by decide +kernel, rfl⟩
theorem d_Twn_happeningOf_6 : zd b_Twn_happeningOf 6 (.getfield 23) 3 9 := ⟨by decide +kernel, rfl⟩
theorem d_Twn_happeningOf_9 : zd_b b_Twn_happeningOf 9 (.if_icmp .ge) 12 30 := ⟨21, by decide +kernel, by decide, rfl⟩
theorem d_Twn_happeningOf_12 : zd_l .iload_n .iload b_Twn_happeningOf 12 1 13 := Or.inl ⟨1, rfl, by decide +kernel, rfl⟩
theorem d_Twn_happeningOf_13 : zd_l .aload_n .aload b_Twn_happeningOf 13 0 14 := Or.inl ⟨0, rfl, by decide +kernel, rfl⟩
theorem d_Twn_happeningOf_14 : zd b_Twn_happeningOf 14 (.getfield 11) 3 17 := ⟨by decide +kernel, rfl⟩
theorem d_Twn_happeningOf_17 : zd b_Twn_happeningOf 17 .arraylength 1 18 := ⟨by decide +kernel, rfl⟩
theorem d_Twn_happeningOf_18 : zd_b b_Twn_happeningOf 18 (.if_icmp .ge) 21 30 := ⟨12, by decide +kernel, by decide, rfl⟩
theorem d_Twn_happeningOf_21 : zd_l .aload_n .aload b_Twn_happeningOf 21 0 22 := Or.inl ⟨0, rfl, by decide +kernel, rfl⟩
theorem d_Twn_happeningOf_22 : zd b_Twn_happeningOf 22 (.getfield 11) 3 25 := ⟨by decide +kernel, rfl⟩
theorem d_Twn_happeningOf_25 : zd_l .iload_n .iload b_Twn_happeningOf 25 1 26 := Or.inl ⟨1, rfl, by decide +kernel, rfl⟩
theorem d_Twn_happeningOf_26 : zd b_Twn_happeningOf 26 .aaload 1 27 := ⟨by decide +kernel, rfl⟩
theorem d_Twn_happeningOf_27 : zd_b b_Twn_happeningOf 27 .goto 30 31 := ⟨4, by decide +kernel, by decide, rfl⟩
theorem d_Twn_happeningOf_30 : zd b_Twn_happeningOf 30 .aconst_null 1 31 := ⟨by decide +kernel, rfl⟩
theorem d_Twn_happeningOf_31 : zd b_Twn_happeningOf 31 .areturn 1 32 := ⟨by decide +kernel, rfl⟩
theorem d_Twn_deedOf_0 : zd_l .iload_n .iload b_Twn_deedOf 0 1 1 := Or.inl ⟨1, rfl, by decide +kernel, rfl⟩
theorem d_Twn_deedOf_1 : zd_b b_Twn_deedOf 1 (.ifCond .lt) 4 30 := ⟨29, by decide +kernel, by decide, rfl⟩
theorem d_Twn_deedOf_4 : zd_l .iload_n .iload b_Twn_deedOf 4 1 5 := Or.inl ⟨1, rfl, by decide +kernel, rfl⟩
theorem d_Twn_deedOf_5 : zd_l .aload_n .aload b_Twn_deedOf 5 0 6 := Or.inl ⟨0, rfl, by decide +kernel, rfl⟩
theorem d_Twn_deedOf_6 : zd b_Twn_deedOf 6 (.getfield 27) 3 9 := ⟨by decide +kernel, rfl⟩
theorem d_Twn_deedOf_9 : zd_b b_Twn_deedOf 9 (.if_icmp .ge) 12 30 := ⟨21, by decide +kernel, by decide, rfl⟩
theorem d_Twn_deedOf_12 : zd_l .iload_n .iload b_Twn_deedOf 12 1 13 := Or.inl ⟨1, rfl, by decide +kernel, rfl⟩
theorem d_Twn_deedOf_13 : zd_l .aload_n .aload b_Twn_deedOf 13 0 14 := Or.inl ⟨0, rfl, by decide +kernel, rfl⟩
theorem d_Twn_deedOf_14 : zd b_Twn_deedOf 14 (.getfield 19) 3 17 := ⟨by decide +kernel, rfl⟩
theorem d_Twn_deedOf_17 : zd b_Twn_deedOf 17 .arraylength 1 18 := ⟨by decide +kernel, rfl⟩
theorem d_Twn_deedOf_18 : zd_b b_Twn_deedOf 18 (.if_icmp .ge) 21 30 := ⟨12, by decide +kernel, by decide, rfl⟩
theorem d_Twn_deedOf_21 : zd_l .aload_n .aload b_Twn_deedOf 21 0 22 := Or.inl ⟨0, rfl, by decide +kernel, rfl⟩
theorem d_Twn_deedOf_22 : zd b_Twn_deedOf 22 (.getfield 19) 3 25 := ⟨by decide +kernel, rfl⟩
theorem d_Twn_deedOf_25 : zd_l .iload_n .iload b_Twn_deedOf 25 1 26 := Or.inl ⟨1, rfl, by decide +kernel, rfl⟩
theorem d_Twn_deedOf_26 : zd b_Twn_deedOf 26 .aaload 1 27 := ⟨by decide +kernel, rfl⟩
theorem d_Twn_deedOf_27 : zd_b b_Twn_deedOf 27 .goto 30 31 := ⟨4, by decide +kernel, by decide, rfl⟩
theorem d_Twn_deedOf_30 : zd b_Twn_deedOf 30 .aconst_null 1 31 := ⟨by decide +kernel, rfl⟩
theorem d_Twn_deedOf_31 : zd b_Twn_deedOf 31 .areturn 1 32 := ⟨by decide +kernel, rfl⟩
theorem d_Twn_happenIn_0 : zd_l .aload_n .aload b_Twn_happenIn 0 0 1 := Or.inl ⟨0, rfl, by decide +kernel, rfl⟩
theorem d_Twn_happenIn_1 : zd b_Twn_happenIn 1 (.getfield 33) 3 4 := ⟨by decide +kernel, rfl⟩
theorem d_Twn_happenIn_4 : zd_l .iload_n .iload b_Twn_happenIn 4 1 5 := Or.inl ⟨1, rfl, by decide +kernel, rfl⟩
theorem d_Twn_happenIn_5 : zd b_Twn_happenIn 5 .lushr 1 6 := ⟨by decide +kernel, rfl⟩
theorem d_Twn_happenIn_6 : zd_kl b_Twn_happenIn "SameTuesday$Town" 6 1 7 := Or.inl ⟨1, by decide +kernel, by decide, rfl⟩
theorem d_Twn_happenIn_7 : zd b_Twn_happenIn 7 .land 1 8 := ⟨by decide +kernel, rfl⟩
theorem d_Twn_happenIn_8 : zd_kl b_Twn_happenIn "SameTuesday$Town" 8 0 9 := Or.inl ⟨0, by decide +kernel, by decide, rfl⟩
theorem d_Twn_happenIn_9 : zd b_Twn_happenIn 9 .lcmp 1 10 := ⟨by decide +kernel, rfl⟩
theorem d_Twn_happenIn_10 : zd_b b_Twn_happenIn 10 (.ifCond .ne) 13 15 := ⟨5, by decide +kernel, by decide, rfl⟩
theorem d_Twn_happenIn_13 : zd_l .lload_n .lload b_Twn_happenIn 13 2 14 := Or.inl ⟨2, rfl, by decide +kernel, rfl⟩
theorem d_Twn_happenIn_14 : zd b_Twn_happenIn 14 .lreturn 1 15 := ⟨by decide +kernel, rfl⟩
theorem d_Twn_happenIn_15 : zd_l .lload_n .lload b_Twn_happenIn 15 2 16 := Or.inl ⟨2, rfl, by decide +kernel, rfl⟩
theorem d_Twn_happenIn_16 : zd_l .lstore_n .lstore b_Twn_happenIn 16 5 18 := Or.inr ⟨by decide +kernel, rfl⟩
theorem d_Twn_happenIn_18 : zd_k b_Twn_happenIn "SameTuesday$Town" 18 0 19 := Or.inl ⟨0, by decide +kernel, by decide, rfl⟩
theorem d_Twn_happenIn_19 : zd_l .istore_n .istore b_Twn_happenIn 19 7 21 := Or.inr ⟨by decide +kernel, rfl⟩
theorem d_Twn_happenIn_21 : zd_l .iload_n .iload b_Twn_happenIn 21 7 23 := Or.inr ⟨by decide +kernel, rfl⟩
theorem d_Twn_happenIn_23 : zd_l .aload_n .aload b_Twn_happenIn 23 0 24 := Or.inl ⟨0, rfl, by decide +kernel, rfl⟩
theorem d_Twn_happenIn_24 : zd b_Twn_happenIn 24 (.getfield 23) 3 27 := ⟨by decide +kernel, rfl⟩
theorem d_Twn_happenIn_27 : zd_b b_Twn_happenIn 27 (.if_icmp .ge) 30 78 := ⟨51, by decide +kernel, by decide, rfl⟩
theorem d_Twn_happenIn_30 : zd_l .aload_n .aload b_Twn_happenIn 30 0 31 := Or.inl ⟨0, rfl, by decide +kernel, rfl⟩
theorem d_Twn_happenIn_31 : zd_l .iload_n .iload b_Twn_happenIn 31 7 33 := Or.inr ⟨by decide +kernel, rfl⟩
theorem d_Twn_happenIn_33 : zd b_Twn_happenIn 33 (.invokevirtual 61) 3 36 := ⟨by decide +kernel, rfl⟩
theorem d_Twn_happenIn_36 : zd_l .astore_n .astore b_Twn_happenIn 36 8 38 := Or.inr ⟨by decide +kernel, rfl⟩
theorem d_Twn_happenIn_38 : zd_l .aload_n .aload b_Twn_happenIn 38 8 40 := Or.inr ⟨by decide +kernel, rfl⟩
theorem d_Twn_happenIn_40 : zd_b b_Twn_happenIn 40 .ifnull 43 72 := ⟨32, by decide +kernel, by decide, rfl⟩
theorem d_Twn_happenIn_43 : zd_l .aload_n .aload b_Twn_happenIn 43 8 45 := Or.inr ⟨by decide +kernel, rfl⟩
theorem d_Twn_happenIn_45 : zd b_Twn_happenIn 45 (.getfield 64) 3 48 := ⟨by decide +kernel, rfl⟩
theorem d_Twn_happenIn_48 : zd_l .iload_n .iload b_Twn_happenIn 48 1 49 := Or.inl ⟨1, rfl, by decide +kernel, rfl⟩
theorem d_Twn_happenIn_49 : zd_b b_Twn_happenIn 49 (.if_icmp .ne) 52 72 := ⟨23, by decide +kernel, by decide, rfl⟩
theorem d_Twn_happenIn_52 : zd_l .iload_n .iload b_Twn_happenIn 52 4 54 := Or.inr ⟨by decide +kernel, rfl⟩
theorem d_Twn_happenIn_54 : zd_l .iload_n .iload b_Twn_happenIn 54 7 56 := Or.inr ⟨by decide +kernel, rfl⟩
theorem d_Twn_happenIn_56 : zd b_Twn_happenIn 56 .ishr 1 57 := ⟨by decide +kernel, rfl⟩
theorem d_Twn_happenIn_57 : zd_k b_Twn_happenIn "SameTuesday$Town" 57 1 58 := Or.inl ⟨1, by decide +kernel, by decide, rfl⟩
theorem d_Twn_happenIn_58 : zd b_Twn_happenIn 58 .iand 1 59 := ⟨by decide +kernel, rfl⟩
theorem d_Twn_happenIn_59 : zd_k b_Twn_happenIn "SameTuesday$Town" 59 1 60 := Or.inl ⟨1, by decide +kernel, by decide, rfl⟩
theorem d_Twn_happenIn_60 : zd_b b_Twn_happenIn 60 (.if_icmp .ne) 63 72 := ⟨12, by decide +kernel, by decide, rfl⟩
theorem d_Twn_happenIn_63 : zd_l .aload_n .aload b_Twn_happenIn 63 8 65 := Or.inr ⟨by decide +kernel, rfl⟩
theorem d_Twn_happenIn_65 : zd_l .lload_n .lload b_Twn_happenIn 65 5 67 := Or.inr ⟨by decide +kernel, rfl⟩
theorem d_Twn_happenIn_67 : zd b_Twn_happenIn 67 (.invokevirtual 67) 3 70 := ⟨by decide +kernel, rfl⟩
theorem d_Twn_happenIn_70 : zd_l .lstore_n .lstore b_Twn_happenIn 70 5 72 := Or.inr ⟨by decide +kernel, rfl⟩
theorem d_Twn_happenIn_72 : zd_i b_Twn_happenIn 72 7 1 1 75 := ⟨by decide +kernel, by decide, rfl⟩
theorem d_Twn_happenIn_75 : zd_b b_Twn_happenIn 75 .goto 78 21 := ⟨(-54), by decide +kernel, by decide, rfl⟩
theorem d_Twn_happenIn_78 : zd_l .lload_n .lload b_Twn_happenIn 78 5 80 := Or.inr ⟨by decide +kernel, rfl⟩
theorem d_Twn_happenIn_80 : zd b_Twn_happenIn 80 .lreturn 1 81 := ⟨by decide +kernel, rfl⟩
theorem d_Twn_openTo_0 : zd_l .iload_n .iload b_Twn_openTo 0 2 1 := Or.inl ⟨2, rfl, by decide +kernel, rfl⟩
theorem d_Twn_openTo_1 : zd_l .aload_n .aload b_Twn_openTo 1 1 2 := Or.inl ⟨1, rfl, by decide +kernel, rfl⟩
theorem d_Twn_openTo_2 : zd b_Twn_openTo 2 (.getfield 71) 3 5 := ⟨by decide +kernel, rfl⟩
theorem d_Twn_openTo_5 : zd b_Twn_openTo 5 .iadd 1 6 := ⟨by decide +kernel, rfl⟩
theorem d_Twn_openTo_6 : zd_l .aload_n .aload b_Twn_openTo 6 0 7 := Or.inl ⟨0, rfl, by decide +kernel, rfl⟩
theorem d_Twn_openTo_7 : zd b_Twn_openTo 7 (.getfield 30) 3 10 := ⟨by decide +kernel, rfl⟩
theorem d_Twn_openTo_10 : zd_b b_Twn_openTo 10 (.if_icmp .ge) 13 22 := ⟨12, by decide +kernel, by decide, rfl⟩
theorem d_Twn_openTo_13 : zd_l .lload_n .lload b_Twn_openTo 13 3 14 := Or.inl ⟨3, rfl, by decide +kernel, rfl⟩
theorem d_Twn_openTo_14 : zd_l .aload_n .aload b_Twn_openTo 14 1 15 := Or.inl ⟨1, rfl, by decide +kernel, rfl⟩
theorem d_Twn_openTo_15 : zd b_Twn_openTo 15 (.getfield 74) 3 18 := ⟨by decide +kernel, rfl⟩
theorem d_Twn_openTo_18 : zd b_Twn_openTo 18 .land 1 19 := ⟨by decide +kernel, rfl⟩
theorem d_Twn_openTo_19 : zd_b b_Twn_openTo 19 .goto 22 23 := ⟨4, by decide +kernel, by decide, rfl⟩
theorem d_Twn_openTo_22 : zd_kl b_Twn_openTo "SameTuesday$Town" 22 0 23 := Or.inl ⟨0, by decide +kernel, by decide, rfl⟩
theorem d_Twn_openTo_23 : zd b_Twn_openTo 23 .lreturn 1 24 := ⟨by decide +kernel, rfl⟩
set_option maxRecDepth 20000 in
theorem f_Trc_7_10 : zb_FL "SameTuesday$Trace" 7 10 0 := ⟨"SameTuesday$Trace", zF_Trc, 1, "SameTuesday$Trace", rfl, by decide, zi_Trc, zb_mem 207 rfl rfl, Or.inl rfl⟩
set_option maxRecDepth 20000 in
theorem p_Trc_7_10 : zb_PL "SameTuesday$Trace" 7 10 0 .int := ⟨"SameTuesday$Trace", zF_Trc, 1, "SameTuesday$Trace", zt_Trc, rfl, by decide, zi_Trc, zb_mem 207 rfl rfl, Or.inl rfl, zk_Trc, zn_Trc, rfl, rfl⟩
theorem d_Trc_init_0 : zd_l .aload_n .aload b_Trc_init 0 0 1 := Or.inl ⟨0, rfl, by decide +kernel, rfl⟩
theorem d_Trc_init_1 : zd b_Trc_init 1 (.invokespecial 1) 3 4 := ⟨by decide +kernel, rfl⟩
theorem d_Trc_init_4 : zd_l .aload_n .aload b_Trc_init 4 0 5 := Or.inl ⟨0, rfl, by decide +kernel, rfl⟩
theorem d_Trc_init_5 : zd_k b_Trc_init "SameTuesday$Trace" 5 0 6 := Or.inl ⟨0, by decide +kernel, by decide, rfl⟩
theorem d_Trc_init_6 : zd b_Trc_init 6 (.putfield 7) 3 9 := ⟨by decide +kernel, rfl⟩
theorem d_Trc_init_9 : zd b_Trc_init 9 .return_ 1 10 := ⟨by decide +kernel, rfl⟩
theorem d_Trc_leave_0 : zd_l .aload_n .aload b_Trc_leave 0 0 1 := Or.inl ⟨0, rfl, by decide +kernel, rfl⟩
theorem d_Trc_leave_1 : zd_k b_Trc_leave "SameTuesday$Trace" 1 31 3 := Or.inr (Or.inl ⟨31, by decide +kernel, by decide, rfl⟩)
theorem d_Trc_leave_3 : zd_l .aload_n .aload b_Trc_leave 3 0 4 := Or.inl ⟨0, rfl, by decide +kernel, rfl⟩
theorem d_Trc_leave_4 : zd b_Trc_leave 4 (.getfield 7) 3 7 := ⟨by decide +kernel, rfl⟩
theorem d_Trc_leave_7 : zd b_Trc_leave 7 .imul 1 8 := ⟨by decide +kernel, rfl⟩
theorem d_Trc_leave_8 : zd_l .iload_n .iload b_Trc_leave 8 1 9 := Or.inl ⟨1, rfl, by decide +kernel, rfl⟩
theorem d_Trc_leave_9 : zd b_Trc_leave 9 .iadd 1 10 := ⟨by decide +kernel, rfl⟩
theorem d_Trc_leave_10 : zd b_Trc_leave 10 (.putfield 7) 3 13 := ⟨by decide +kernel, rfl⟩
theorem d_Trc_leave_13 : zd b_Trc_leave 13 .return_ 1 14 := ⟨by decide +kernel, rfl⟩
theorem d_Trc_value_0 : zd_l .aload_n .aload b_Trc_value 0 0 1 := Or.inl ⟨0, rfl, by decide +kernel, rfl⟩
theorem d_Trc_value_1 : zd b_Trc_value 1 (.getfield 7) 3 4 := ⟨by decide +kernel, rfl⟩
theorem d_Trc_value_4 : zd b_Trc_value 4 .ireturn 1 5 := ⟨by decide +kernel, rfl⟩
set_option maxRecDepth 20000 in
theorem f_Tue_13_11 : zb_FL "SameTuesday" 13 11 0 := ⟨"SameTuesday", zF_Tue, 7, "SameTuesday", rfl, by decide, zi_Tue, zb_mem 211 rfl rfl, Or.inl rfl⟩
set_option maxRecDepth 20000 in
theorem p_Tue_13_11 : zb_PF "SameTuesday" 13 11 0 (.array (.object "SameTuesday$Sheet")) := ⟨"SameTuesday", zF_Tue, 7, "SameTuesday", zt_Tue, rfl, by decide, zi_Tue, zb_mem 211 rfl rfl, Or.inl rfl, zk_Tue, zn_Tue, rfl, rfl, rfl⟩
set_option maxRecDepth 20000 in
theorem f_Tue_21_11 : zb_FL "SameTuesday" 21 11 1 := ⟨"SameTuesday", zF_Tue, 7, "SameTuesday", rfl, by decide, zi_Tue, zb_mem 212 rfl rfl, Or.inl rfl⟩
set_option maxRecDepth 20000 in
theorem p_Tue_21_11 : zb_PF "SameTuesday" 21 11 1 (.object "SameTuesday$Town") := ⟨"SameTuesday", zF_Tue, 7, "SameTuesday", zt_Tue, rfl, by decide, zi_Tue, zb_mem 212 rfl rfl, Or.inl rfl, zk_Tue, zn_Tue, rfl, rfl, rfl⟩
set_option maxRecDepth 20000 in
theorem f_Tue_30_11 : zb_FL "SameTuesday" 30 11 2 := ⟨"SameTuesday", zF_Tue, 7, "SameTuesday", rfl, by decide, zi_Tue, zb_mem 213 rfl rfl, Or.inl rfl⟩
set_option maxRecDepth 20000 in
theorem p_Tue_30_11 : zb_PF "SameTuesday" 30 11 2 (.object "SameTuesday$Life") := ⟨"SameTuesday", zF_Tue, 7, "SameTuesday", zt_Tue, rfl, by decide, zi_Tue, zb_mem 213 rfl rfl, Or.inl rfl, zk_Tue, zn_Tue, rfl, rfl, rfl⟩
set_option maxRecDepth 20000 in
theorem f_Tue_37_11 : zb_FL "SameTuesday" 37 11 3 := ⟨"SameTuesday", zF_Tue, 7, "SameTuesday", rfl, by decide, zi_Tue, zb_mem 214 rfl rfl, Or.inl rfl⟩
set_option maxRecDepth 20000 in
theorem p_Tue_37_11 : zb_PF "SameTuesday" 37 11 3 (.object "SameTuesday$Reach") := ⟨"SameTuesday", zF_Tue, 7, "SameTuesday", zt_Tue, rfl, by decide, zi_Tue, zb_mem 214 rfl rfl, Or.inl rfl, zk_Tue, zn_Tue, rfl, rfl, rfl⟩
set_option maxRecDepth 20000 in
theorem f_Tue_44_11 : zb_FL "SameTuesday" 44 11 4 := ⟨"SameTuesday", zF_Tue, 7, "SameTuesday", rfl, by decide, zi_Tue, zb_mem 215 rfl rfl, Or.inl rfl⟩
set_option maxRecDepth 20000 in
theorem p_Tue_44_11 : zb_PF "SameTuesday" 44 11 4 (.object "SameTuesday$Law") := ⟨"SameTuesday", zF_Tue, 7, "SameTuesday", zt_Tue, rfl, by decide, zi_Tue, zb_mem 215 rfl rfl, Or.inl rfl, zk_Tue, zn_Tue, rfl, rfl, rfl⟩
set_option maxRecDepth 20000 in
theorem f_Tue_51_11 : zb_FL "SameTuesday" 51 11 5 := ⟨"SameTuesday", zF_Tue, 7, "SameTuesday", rfl, by decide, zi_Tue, zb_mem 216 rfl rfl, Or.inl rfl⟩
set_option maxRecDepth 20000 in
theorem p_Tue_51_11 : zb_PF "SameTuesday" 51 11 5 (.object "SameTuesday$Trace") := ⟨"SameTuesday", zF_Tue, 7, "SameTuesday", zt_Tue, rfl, by decide, zi_Tue, zb_mem 216 rfl rfl, Or.inl rfl, zk_Tue, zn_Tue, rfl, rfl, rfl⟩
set_option maxRecDepth 20000 in
theorem f_Tue_55_11 : zb_FL "SameTuesday" 55 11 6 := ⟨"SameTuesday", zF_Tue, 7, "SameTuesday", rfl, by decide, zi_Tue, zb_mem 217 rfl rfl, Or.inl rfl⟩
set_option maxRecDepth 20000 in
theorem p_Tue_55_11 : zb_PL "SameTuesday" 55 11 6 .int := ⟨"SameTuesday", zF_Tue, 7, "SameTuesday", zt_Tue, rfl, by decide, zi_Tue, zb_mem 217 rfl rfl, Or.inl rfl, zk_Tue, zn_Tue, rfl, rfl⟩
set_option maxRecDepth 20000 in
theorem f_Tue_102_2 : zb_FL "SameTuesday" 102 2 5 := ⟨"SameTuesday$Happening", zF_Hap, 6, "SameTuesday$Happening", rfl, by decide, zi_Hap, zb_mem 372 rfl rfl, Or.inl rfl⟩
set_option maxRecDepth 20000 in
theorem f_Tue_102_5 : zb_FL "SameTuesday" 102 5 5 := ⟨"SameTuesday$Mishap", zF_Mis, 6, "SameTuesday$Happening", rfl, by decide, zi_Mis, zb_mem 372 rfl rfl, Or.inl rfl⟩
set_option maxRecDepth 20000 in
theorem f_Tue_102_0 : zb_FL "SameTuesday" 102 0 5 := ⟨"SameTuesday$Caprice", zF_Cap, 6, "SameTuesday$Happening", rfl, by decide, zi_Cap, zb_mem 372 rfl rfl, Or.inl rfl⟩
set_option maxRecDepth 20000 in
theorem f_Tue_105_2 : zb_FL "SameTuesday" 105 2 1 := ⟨"SameTuesday$Happening", zF_Hap, 6, "SameTuesday$Happening", rfl, by decide, zi_Hap, zb_mem 353 rfl rfl, Or.inl rfl⟩
set_option maxRecDepth 20000 in
theorem f_Tue_105_5 : zb_FL "SameTuesday" 105 5 1 := ⟨"SameTuesday$Mishap", zF_Mis, 6, "SameTuesday$Happening", rfl, by decide, zi_Mis, zb_mem 353 rfl rfl, Or.inl rfl⟩
set_option maxRecDepth 20000 in
theorem f_Tue_105_0 : zb_FL "SameTuesday" 105 0 1 := ⟨"SameTuesday$Caprice", zF_Cap, 6, "SameTuesday$Happening", rfl, by decide, zi_Cap, zb_mem 353 rfl rfl, Or.inl rfl⟩
set_option maxRecDepth 20000 in
theorem f_Tue_108_2 : zb_FL "SameTuesday" 108 2 2 := ⟨"SameTuesday$Happening", zF_Hap, 6, "SameTuesday$Happening", rfl, by decide, zi_Hap, zb_mem 359 rfl rfl, Or.inl rfl⟩
set_option maxRecDepth 20000 in
theorem f_Tue_108_5 : zb_FL "SameTuesday" 108 5 2 := ⟨"SameTuesday$Mishap", zF_Mis, 6, "SameTuesday$Happening", rfl, by decide, zi_Mis, zb_mem 359 rfl rfl, Or.inl rfl⟩
set_option maxRecDepth 20000 in
theorem f_Tue_108_0 : zb_FL "SameTuesday" 108 0 2 := ⟨"SameTuesday$Caprice", zF_Cap, 6, "SameTuesday$Happening", rfl, by decide, zi_Cap, zb_mem 359 rfl rfl, Or.inl rfl⟩
set_option maxRecDepth 20000 in
theorem f_Tue_115_1 : zb_FL "SameTuesday" 115 1 0 := ⟨"SameTuesday$Deed", zF_Deed, 5, "SameTuesday$Deed", rfl, by decide, zi_Deed, zb_mem 425 rfl rfl, Or.inl rfl⟩
set_option maxRecDepth 20000 in
theorem f_Tue_118_1 : zb_FL "SameTuesday" 118 1 1 := ⟨"SameTuesday$Deed", zF_Deed, 5, "SameTuesday$Deed", rfl, by decide, zi_Deed, zb_mem 427 rfl rfl, Or.inl rfl⟩
set_option maxRecDepth 20000 in
theorem f_Tue_119_1 : zb_FL "SameTuesday" 119 1 2 := ⟨"SameTuesday$Deed", zF_Deed, 5, "SameTuesday$Deed", rfl, by decide, zi_Deed, zb_mem 429 rfl rfl, Or.inl rfl⟩
set_option maxRecDepth 20000 in
theorem f_Tue_122_1 : zb_FL "SameTuesday" 122 1 3 := ⟨"SameTuesday$Deed", zF_Deed, 5, "SameTuesday$Deed", rfl, by decide, zi_Deed, zb_mem 431 rfl rfl, Or.inl rfl⟩
set_option maxRecDepth 20000 in
theorem l_Tue_17 : zl_I "SameTuesday" 17 y_Sht_init b_Sht_init 1 0 := ⟨⟨zb_mem 78 rfl rfl, zb_mem 51 rfl rfl, zb_mem 80 rfl rfl, by decide, by decide +kernel⟩, rfl, zb_mem 79 rfl rfl⟩
set_option maxRecDepth 20000 in
theorem l_Tue_20 : zl_I "SameTuesday" 20 y_Twn_init b_Twn_init 1 0 := ⟨⟨zb_mem 95 rfl rfl, zb_mem 52 rfl rfl, zb_mem 97 rfl rfl, by decide, by decide +kernel⟩, rfl, zb_mem 96 rfl rfl⟩
set_option maxRecDepth 20000 in
theorem l_Tue_27 : zl_I "SameTuesday" 27 y_Life_init b_Life_init 2 1 := ⟨⟨zb_mem 124 rfl rfl, zb_mem 53 rfl rfl, zb_mem 126 rfl rfl, by decide, by decide +kernel⟩, rfl, zb_mem 125 rfl rfl⟩
set_option maxRecDepth 20000 in
theorem l_Tue_36 : zl_I "SameTuesday" 36 y_Rch_init b_Rch_init 2 1 := ⟨⟨zb_mem 168 rfl rfl, zb_mem 54 rfl rfl, zb_mem 170 rfl rfl, by decide, by decide +kernel⟩, rfl, zb_mem 169 rfl rfl⟩
set_option maxRecDepth 20000 in
theorem l_Tue_43 : zl_I "SameTuesday" 43 y_Law_init b_Law_init 1 0 := ⟨⟨zb_mem 190 rfl rfl, zb_mem 55 rfl rfl, zb_mem 192 rfl rfl, by decide, by decide +kernel⟩, rfl, zb_mem 191 rfl rfl⟩
set_option maxRecDepth 20000 in
theorem l_Tue_50 : zl_I "SameTuesday" 50 y_Trc_init b_Trc_init 1 0 := ⟨⟨zb_mem 203 rfl rfl, zb_mem 56 rfl rfl, zb_mem 205 rfl rfl, by decide, by decide +kernel⟩, rfl, zb_mem 204 rfl rfl⟩
set_option maxRecDepth 20000 in
theorem l_Tue_59 : zl_V "SameTuesday" 59 y_Tue_sheetOf b_Tue_sheetOf 2 (some (.object "SameTuesday$Sheet")) 1 := ⟨⟨zb_mem 237 rfl rfl, zb_mem 50 rfl rfl, zb_mem 240 rfl rfl, by decide, by decide +kernel⟩, zb_mem 239 rfl rfl, zb_mem 0 rfl rfl⟩
set_option maxRecDepth 20000 in
theorem l_Tue_63 : zl_V "SameTuesday" 63 y_Tue_refusalOfCells b_Tue_refusalOfCells 5 (some .int) 4 := ⟨⟨zb_mem 241 rfl rfl, zb_mem 50 rfl rfl, zb_mem 244 rfl rfl, by decide, by decide +kernel⟩, zb_mem 243 rfl rfl, zb_mem 1 rfl rfl⟩
set_option maxRecDepth 20000 in
theorem l_Tue_69 : zl_I "SameTuesday" 69 y_Txt_init b_Txt_init 4 3 := ⟨⟨zb_mem 266 rfl rfl, zb_mem 58 rfl rfl, zb_mem 268 rfl rfl, by decide, by decide +kernel⟩, rfl, zb_mem 267 rfl rfl⟩
set_option maxRecDepth 20000 in
theorem l_Tue_72 : zl_V "SameTuesday" 72 y_Txt_firstFault b_Txt_firstFault 3 (some .int) 0 := ⟨⟨zb_mem 289 rfl rfl, zb_mem 58 rfl rfl, zb_mem 292 rfl rfl, by decide, by decide +kernel⟩, zb_mem 290 rfl rfl, zb_mem 291 rfl rfl⟩
set_option maxRecDepth 20000 in
theorem l_Tue_76 : zl_V "SameTuesday" 76 y_Twn_retell b_Twn_retell 3 none 1 := ⟨⟨zb_mem 317 rfl rfl, zb_mem 52 rfl rfl, zb_mem 320 rfl rfl, by decide, by decide +kernel⟩, zb_mem 318 rfl rfl, zb_mem 319 rfl rfl⟩
set_option maxRecDepth 20000 in
theorem l_Tue_80 : zl_V "SameTuesday" 80 y_Law_dayCount b_Law_dayCount 1 (some .int) 0 := ⟨⟨zb_mem 456 rfl rfl, zb_mem 55 rfl rfl, zb_mem 459 rfl rfl, by decide, by decide +kernel⟩, zb_mem 457 rfl rfl, zb_mem 458 rfl rfl⟩
set_option maxRecDepth 20000 in
theorem l_Tue_83 : zl_V "SameTuesday" 83 y_Law_dropLast b_Law_dropLast 2 none 1 := ⟨⟨zb_mem 460 rfl rfl, zb_mem 55 rfl rfl, zb_mem 463 rfl rfl, by decide, by decide +kernel⟩, zb_mem 461 rfl rfl, zb_mem 462 rfl rfl⟩
set_option maxRecDepth 20000 in
theorem l_Tue_87 : zl_V "SameTuesday" 87 y_Rch_spoil b_Rch_spoil 1 none 0 := ⟨⟨zb_mem 467 rfl rfl, zb_mem 54 rfl rfl, zb_mem 470 rfl rfl, by decide, by decide +kernel⟩, zb_mem 468 rfl rfl, zb_mem 469 rfl rfl⟩
set_option maxRecDepth 20000 in
theorem l_Tue_90 : zl_V "SameTuesday" 90 y_Twn_happeningCount b_Twn_happeningCount 1 (some .int) 0 := ⟨⟨zb_mem 471 rfl rfl, zb_mem 52 rfl rfl, zb_mem 474 rfl rfl, by decide, by decide +kernel⟩, zb_mem 472 rfl rfl, zb_mem 473 rfl rfl⟩
set_option maxRecDepth 20000 in
theorem l_Tue_93 : zl_V "SameTuesday" 93 y_Twn_happeningOf b_Twn_happeningOf 2 (some (.object "SameTuesday$Happening")) 1 := ⟨⟨zb_mem 479 rfl rfl, zb_mem 52 rfl rfl, zb_mem 455 rfl rfl, by decide, by decide +kernel⟩, zb_mem 453 rfl rfl, zb_mem 454 rfl rfl⟩
set_option maxRecDepth 20000 in
theorem l_Tue_111 : zl_V "SameTuesday" 111 y_Twn_deedOf b_Twn_deedOf 2 (some (.object "SameTuesday$Deed")) 1 := ⟨⟨zb_mem 495 rfl rfl, zb_mem 52 rfl rfl, zb_mem 498 rfl rfl, by decide, by decide +kernel⟩, zb_mem 496 rfl rfl, zb_mem 497 rfl rfl⟩
set_option maxRecDepth 20000 in
theorem l_Tue_125 : zl_V "SameTuesday" 125 y_Twn_isTold b_Twn_isTold 1 (some .boolean) 0 := ⟨⟨zb_mem 503 rfl rfl, zb_mem 52 rfl rfl, zb_mem 506 rfl rfl, by decide, by decide +kernel⟩, zb_mem 504 rfl rfl, zb_mem 505 rfl rfl⟩
set_option maxRecDepth 20000 in
theorem l_Tue_129 : zl_V "SameTuesday" 129 y_Twn_minuteCount b_Twn_minuteCount 1 (some .int) 0 := ⟨⟨zb_mem 507 rfl rfl, zb_mem 52 rfl rfl, zb_mem 510 rfl rfl, by decide, by decide +kernel⟩, zb_mem 508 rfl rfl, zb_mem 509 rfl rfl⟩
set_option maxRecDepth 20000 in
theorem l_Tue_132 : zl_V "SameTuesday" 132 y_Twn_setMinutes b_Twn_setMinutes 2 none 1 := ⟨⟨zb_mem 511 rfl rfl, zb_mem 52 rfl rfl, zb_mem 514 rfl rfl, by decide, by decide +kernel⟩, zb_mem 512 rfl rfl, zb_mem 513 rfl rfl⟩
set_option maxRecDepth 20000 in
theorem l_Tue_135 : zl_S "SameTuesday" 135 y_Tue_isMinute b_Tue_isMinute 1 (some .boolean) 1 := ⟨⟨zb_mem 519 rfl rfl, zb_mem 50 rfl rfl, zb_mem 521 rfl rfl, by decide, by decide +kernel⟩, zb_mem 520 rfl rfl⟩
set_option maxRecDepth 20000 in
theorem l_Tue_139 : zl_V "SameTuesday" 139 y_Twn_moveTo b_Twn_moveTo 3 none 2 := ⟨⟨zb_mem 522 rfl rfl, zb_mem 52 rfl rfl, zb_mem 525 rfl rfl, by decide, by decide +kernel⟩, zb_mem 523 rfl rfl, zb_mem 524 rfl rfl⟩
set_option maxRecDepth 20000 in
theorem l_Tue_143 : zl_V "SameTuesday" 143 y_Tue_takeRow b_Tue_takeRow 8 (some .int) 5 := ⟨⟨zb_mem 530 rfl rfl, zb_mem 50 rfl rfl, zb_mem 533 rfl rfl, by decide, by decide +kernel⟩, zb_mem 532 rfl rfl, zb_mem 7 rfl rfl⟩
set_option maxRecDepth 20000 in
theorem l_Tue_147 : zl_V "SameTuesday" 147 y_Life_factsAt b_Life_factsAt 5 (some .int) 2 := ⟨⟨zb_mem 541 rfl rfl, zb_mem 53 rfl rfl, zb_mem 544 rfl rfl, by decide, by decide +kernel⟩, zb_mem 542 rfl rfl, zb_mem 543 rfl rfl⟩
set_option maxRecDepth 20000 in
theorem l_Tue_151 : zl_V "SameTuesday" 151 y_Life_firstWrong b_Life_firstWrong 1 (some .int) 0 := ⟨⟨zb_mem 608 rfl rfl, zb_mem 53 rfl rfl, zb_mem 611 rfl rfl, by decide, by decide +kernel⟩, zb_mem 609 rfl rfl, zb_mem 610 rfl rfl⟩
set_option maxRecDepth 20000 in
theorem l_Tue_154 : zl_V "SameTuesday" 154 y_Life_hangsOn b_Life_hangsOn 4 (some .int) 0 := ⟨⟨zb_mem 620 rfl rfl, zb_mem 53 rfl rfl, zb_mem 623 rfl rfl, by decide, by decide +kernel⟩, zb_mem 621 rfl rfl, zb_mem 622 rfl rfl⟩
set_option maxRecDepth 20000 in
theorem l_Tue_157 : zl_S "SameTuesday" 157 y_Tue_isSet b_Tue_isSet 1 (some .boolean) 1 := ⟨⟨zb_mem 630 rfl rfl, zb_mem 50 rfl rfl, zb_mem 632 rfl rfl, by decide, by decide +kernel⟩, zb_mem 631 rfl rfl⟩
set_option maxRecDepth 20000 in
theorem l_Tue_160 : zl_V "SameTuesday" 160 y_Rch_worldAt b_Rch_worldAt 3 (some .long) 1 := ⟨⟨zb_mem 633 rfl rfl, zb_mem 54 rfl rfl, zb_mem 636 rfl rfl, by decide, by decide +kernel⟩, zb_mem 634 rfl rfl, zb_mem 635 rfl rfl⟩
set_option maxRecDepth 20000 in
theorem l_Tue_164 : zl_S "SameTuesday" 164 y_Tue_hasState b_Tue_hasState 3 (some .boolean) 2 := ⟨⟨zb_mem 666 rfl rfl, zb_mem 50 rfl rfl, zb_mem 668 rfl rfl, by decide, by decide +kernel⟩, zb_mem 667 rfl rfl⟩
set_option maxRecDepth 20000 in
theorem l_Tue_168 : zl_V "SameTuesday" 168 y_Rch_soonestOf b_Rch_soonestOf 5 (some .int) 1 := ⟨⟨zb_mem 673 rfl rfl, zb_mem 54 rfl rfl, zb_mem 676 rfl rfl, by decide, by decide +kernel⟩, zb_mem 674 rfl rfl, zb_mem 675 rfl rfl⟩
set_option maxRecDepth 20000 in
theorem l_Tue_172 : zl_V "SameTuesday" 172 y_Rch_barOf b_Rch_barOf 7 (some .int) 1 := ⟨⟨zb_mem 686 rfl rfl, zb_mem 54 rfl rfl, zb_mem 689 rfl rfl, by decide, by decide +kernel⟩, zb_mem 687 rfl rfl, zb_mem 688 rfl rfl⟩
set_option maxRecDepth 20000 in
theorem l_Tue_175 : zl_V "SameTuesday" 175 y_Law_isFull b_Law_isFull 1 (some .boolean) 0 := ⟨⟨zb_mem 694 rfl rfl, zb_mem 55 rfl rfl, zb_mem 697 rfl rfl, by decide, by decide +kernel⟩, zb_mem 695 rfl rfl, zb_mem 696 rfl rfl⟩
set_option maxRecDepth 20000 in
theorem l_Tue_178 : zl_V "SameTuesday" 178 y_Law_addDay b_Law_addDay 2 none 1 := ⟨⟨zb_mem 698 rfl rfl, zb_mem 55 rfl rfl, zb_mem 701 rfl rfl, by decide, by decide +kernel⟩, zb_mem 699 rfl rfl, zb_mem 700 rfl rfl⟩
set_option maxRecDepth 20000 in
theorem l_Tue_181 : zl_V "SameTuesday" 181 y_Law_possible b_Law_possible 4 (some .long) 0 := ⟨⟨zb_mem 710 rfl rfl, zb_mem 55 rfl rfl, zb_mem 713 rfl rfl, by decide, by decide +kernel⟩, zb_mem 711 rfl rfl, zb_mem 712 rfl rfl⟩
set_option maxRecDepth 20000 in
theorem l_Tue_185 : zl_S "SameTuesday" 185 y_JLong_bitCount b_JLong_bitCount 2 (some .int) 1 := ⟨⟨zb_mem 718 rfl rfl, zb_mem 64 rfl rfl, zb_mem 720 rfl rfl, by decide, by decide +kernel⟩, zb_mem 719 rfl rfl⟩
set_option maxRecDepth 20000 in
theorem l_Tue_189 : zl_V "SameTuesday" 189 y_Law_possibleAt b_Law_possibleAt 6 (some .int) 1 := ⟨⟨zb_mem 724 rfl rfl, zb_mem 55 rfl rfl, zb_mem 727 rfl rfl, by decide, by decide +kernel⟩, zb_mem 725 rfl rfl, zb_mem 726 rfl rfl⟩
set_option maxRecDepth 20000 in
theorem l_Tue_192 : zl_V "SameTuesday" 192 y_Law_ofFewestFacts b_Law_ofFewestFacts 6 (some .int) 0 := ⟨⟨zb_mem 734 rfl rfl, zb_mem 55 rfl rfl, zb_mem 737 rfl rfl, by decide, by decide +kernel⟩, zb_mem 735 rfl rfl, zb_mem 736 rfl rfl⟩
set_option maxRecDepth 20000 in
theorem l_Tue_195 : zl_V "SameTuesday" 195 y_Law_partingBest b_Law_partingBest 8 (some .int) 1 := ⟨⟨zb_mem 748 rfl rfl, zb_mem 55 rfl rfl, zb_mem 751 rfl rfl, by decide, by decide +kernel⟩, zb_mem 749 rfl rfl, zb_mem 750 rfl rfl⟩
set_option maxRecDepth 20000 in
theorem l_Tue_198 : zl_S "SameTuesday" 198 y_Tue_lesserPart b_Tue_lesserPart 4 (some .int) 2 := ⟨⟨zb_mem 757 rfl rfl, zb_mem 50 rfl rfl, zb_mem 754 rfl rfl, by decide, by decide +kernel⟩, zb_mem 753 rfl rfl⟩
set_option maxRecDepth 20000 in
theorem l_Tue_202 : zl_V "SameTuesday" 202 y_Life_otherAt b_Life_otherAt 7 (some .int) 2 := ⟨⟨zb_mem 762 rfl rfl, zb_mem 53 rfl rfl, zb_mem 765 rfl rfl, by decide, by decide +kernel⟩, zb_mem 763 rfl rfl, zb_mem 764 rfl rfl⟩
set_option maxRecDepth 20000 in
theorem l_Tue_207 : zl_V "SameTuesday" 207 y_Life_countWaysTo b_Life_countWaysTo 4 (some .int) 1 := ⟨⟨zb_mem 780 rfl rfl, zb_mem 53 rfl rfl, zb_mem 783 rfl rfl, by decide, by decide +kernel⟩, zb_mem 781 rfl rfl, zb_mem 782 rfl rfl⟩
set_option maxRecDepth 20000 in
theorem l_Tue_210 : zl_S "SameTuesday" 210 y_Tue_greatestCommon b_Tue_greatestCommon 6 (some .int) 2 := ⟨⟨zb_mem 784 rfl rfl, zb_mem 50 rfl rfl, zb_mem 786 rfl rfl, by decide, by decide +kernel⟩, zb_mem 785 rfl rfl⟩
set_option maxRecDepth 20000 in
theorem l_Tue_213 : zl_S "SameTuesday" 213 y_Tue_isLane b_Tue_isLane 1 (some .boolean) 1 := ⟨⟨zb_mem 245 rfl rfl, zb_mem 50 rfl rfl, zb_mem 247 rfl rfl, by decide, by decide +kernel⟩, zb_mem 246 rfl rfl⟩
set_option maxRecDepth 20000 in
theorem l_Tue_216 : zl_V "SameTuesday" 216 y_Tue_faulty b_Tue_faulty 2 (some .int) 1 := ⟨⟨zb_mem 252 rfl rfl, zb_mem 50 rfl rfl, zb_mem 255 rfl rfl, by decide, by decide +kernel⟩, zb_mem 254 rfl rfl, zb_mem 2 rfl rfl⟩
set_option maxRecDepth 20000 in
theorem l_Tue_219 : zl_V "SameTuesday" 219 y_Sht_renew b_Sht_renew 4 none 2 := ⟨⟨zb_mem 791 rfl rfl, zb_mem 51 rfl rfl, zb_mem 794 rfl rfl, by decide, by decide +kernel⟩, zb_mem 792 rfl rfl, zb_mem 793 rfl rfl⟩
set_option maxRecDepth 20000 in
theorem l_Tue_223 : zl_V "SameTuesday" 223 y_Sht_hasNothing b_Sht_hasNothing 1 (some .boolean) 0 := ⟨⟨zb_mem 248 rfl rfl, zb_mem 51 rfl rfl, zb_mem 251 rfl rfl, by decide, by decide +kernel⟩, zb_mem 249 rfl rfl, zb_mem 250 rfl rfl⟩
set_option maxRecDepth 20000 in
theorem l_Tue_226 : zl_V "SameTuesday" 226 y_Sht_empty b_Sht_empty 1 none 0 := ⟨⟨zb_mem 801 rfl rfl, zb_mem 51 rfl rfl, zb_mem 804 rfl rfl, by decide, by decide +kernel⟩, zb_mem 802 rfl rfl, zb_mem 803 rfl rfl⟩
set_option maxRecDepth 20000 in
theorem l_Tue_229 : zl_V "SameTuesday" 229 y_Sht_holds b_Sht_holds 3 (some .boolean) 2 := ⟨⟨zb_mem 260 rfl rfl, zb_mem 51 rfl rfl, zb_mem 263 rfl rfl, by decide, by decide +kernel⟩, zb_mem 261 rfl rfl, zb_mem 262 rfl rfl⟩
set_option maxRecDepth 20000 in
theorem l_Tue_233 : zl_V "SameTuesday" 233 y_Sht_setCell b_Sht_setCell 3 none 2 := ⟨⟨zb_mem 809 rfl rfl, zb_mem 51 rfl rfl, zb_mem 812 rfl rfl, by decide, by decide +kernel⟩, zb_mem 810 rfl rfl, zb_mem 811 rfl rfl⟩
set_option maxRecDepth 20000 in
theorem l_Tue_236 : zl_V "SameTuesday" 236 y_Sht_cellAt b_Sht_cellAt 2 (some .int) 1 := ⟨⟨zb_mem 817 rfl rfl, zb_mem 51 rfl rfl, zb_mem 300 rfl rfl, by decide, by decide +kernel⟩, zb_mem 298 rfl rfl, zb_mem 299 rfl rfl⟩
set_option maxRecDepth 20000 in
theorem l_Tue_239 : zl_V "SameTuesday" 239 y_Sht_isLike b_Sht_isLike 2 (some .boolean) 1 := ⟨⟨zb_mem 822 rfl rfl, zb_mem 51 rfl rfl, zb_mem 825 rfl rfl, by decide, by decide +kernel⟩, zb_mem 823 rfl rfl, zb_mem 824 rfl rfl⟩
set_option maxRecDepth 20000 in
theorem l_Tue_243 : zl_V "SameTuesday" 243 y_Sht_takeFrom b_Sht_takeFrom 5 none 4 := ⟨⟨zb_mem 826 rfl rfl, zb_mem 51 rfl rfl, zb_mem 829 rfl rfl, by decide, by decide +kernel⟩, zb_mem 827 rfl rfl, zb_mem 828 rfl rfl⟩
set_option maxRecDepth 20000 in
theorem l_Tue_254 : zl_V "SameTuesday" 254 y_Trc_value b_Trc_value 1 (some .int) 0 := ⟨⟨zb_mem 886 rfl rfl, zb_mem 56 rfl rfl, zb_mem 889 rfl rfl, by decide, by decide +kernel⟩, zb_mem 887 rfl rfl, zb_mem 888 rfl rfl⟩
set_option maxRecDepth 20000 in
theorem l_Tue_257 : zl_V "SameTuesday" 257 y_Twn_deedCount b_Twn_deedCount 1 (some .int) 0 := ⟨⟨zb_mem 898 rfl rfl, zb_mem 52 rfl rfl, zb_mem 770 rfl rfl, by decide, by decide +kernel⟩, zb_mem 768 rfl rfl, zb_mem 769 rfl rfl⟩
set_option maxRecDepth 20000 in
theorem l_Tue_260 : zl_V "SameTuesday" 260 y_Sht_isOf b_Sht_isOf 2 (some .boolean) 1 := ⟨⟨zb_mem 256 rfl rfl, zb_mem 51 rfl rfl, zb_mem 259 rfl rfl, by decide, by decide +kernel⟩, zb_mem 257 rfl rfl, zb_mem 258 rfl rfl⟩
set_option maxRecDepth 20000 in
theorem l_Tue_263 : zl_V "SameTuesday" 263 y_Life_readPairs b_Life_readPairs 7 (some .int) 3 := ⟨⟨zb_mem 534 rfl rfl, zb_mem 53 rfl rfl, zb_mem 537 rfl rfl, by decide, by decide +kernel⟩, zb_mem 535 rfl rfl, zb_mem 536 rfl rfl⟩
set_option maxRecDepth 20000 in
theorem l_Tue_273 : zl_S "SameTuesday" 273 y_Tue_worldWith b_Tue_worldWith 1 (some .long) 1 := ⟨⟨zb_mem 680 rfl rfl, zb_mem 50 rfl rfl, zb_mem 347 rfl rfl, by decide, by decide +kernel⟩, zb_mem 346 rfl rfl⟩
set_option maxRecDepth 20000 in
theorem l_Tue_276 : zl_S "SameTuesday" 276 y_Tue_worldWithin b_Tue_worldWithin 4 (some .long) 1 := ⟨⟨zb_mem 755 rfl rfl, zb_mem 50 rfl rfl, zb_mem 717 rfl rfl, by decide, by decide +kernel⟩, zb_mem 716 rfl rfl⟩
theorem d_Tue_init_0 : zd_l .aload_n .aload b_Tue_init 0 0 1 := Or.inl ⟨0, rfl, by decide +kernel, rfl⟩
theorem d_Tue_init_1 : zd b_Tue_init 1 (.invokespecial 5) 3 4 := ⟨by decide +kernel, rfl⟩
theorem d_Tue_init_4 : zd_l .aload_n .aload b_Tue_init 4 0 5 := Or.inl ⟨0, rfl, by decide +kernel, rfl⟩
theorem d_Tue_init_5 : zd_k b_Tue_init "SameTuesday" 5 4 6 := Or.inl ⟨4, by decide +kernel, by decide, rfl⟩
theorem d_Tue_init_6 : zd b_Tue_init 6 (.anewarray 11) 3 9 := ⟨by decide +kernel, rfl⟩
theorem d_Tue_init_9 : zd b_Tue_init 9 (.putfield 13) 3 12 := ⟨by decide +kernel, rfl⟩
theorem d_Tue_init_12 : zd_k b_Tue_init "SameTuesday" 12 0 13 := Or.inl ⟨0, by decide +kernel, by decide, rfl⟩
theorem d_Tue_init_13 : zd_l .istore_n .istore b_Tue_init 13 1 14 := Or.inl ⟨1, rfl, by decide +kernel, rfl⟩
theorem d_Tue_init_14 : zd_l .iload_n .iload b_Tue_init 14 1 15 := Or.inl ⟨1, rfl, by decide +kernel, rfl⟩
theorem d_Tue_init_15 : zd_k b_Tue_init "SameTuesday" 15 4 16 := Or.inl ⟨4, by decide +kernel, by decide, rfl⟩
theorem d_Tue_init_16 : zd_b b_Tue_init 16 (.if_icmp .ge) 19 38 := ⟨22, by decide +kernel, by decide, rfl⟩
theorem d_Tue_init_19 : zd_l .aload_n .aload b_Tue_init 19 0 20 := Or.inl ⟨0, rfl, by decide +kernel, rfl⟩
theorem d_Tue_init_20 : zd b_Tue_init 20 (.getfield 13) 3 23 := ⟨by decide +kernel, rfl⟩
theorem d_Tue_init_23 : zd_l .iload_n .iload b_Tue_init 23 1 24 := Or.inl ⟨1, rfl, by decide +kernel, rfl⟩
theorem d_Tue_init_24 : zd b_Tue_init 24 (.new 11) 3 27 := ⟨by decide +kernel, rfl⟩
theorem d_Tue_init_27 : zd b_Tue_init 27 .dup 1 28 := ⟨by decide +kernel, rfl⟩
theorem d_Tue_init_28 : zd b_Tue_init 28 (.invokespecial 17) 3 31 := ⟨by decide +kernel, rfl⟩
theorem d_Tue_init_31 : zd b_Tue_init 31 .aastore 1 32 := ⟨by decide +kernel, rfl⟩
theorem d_Tue_init_32 : zd_i b_Tue_init 32 1 1 1 35 := ⟨by decide +kernel, by decide, rfl⟩
theorem d_Tue_init_35 : zd_b b_Tue_init 35 .goto 38 14 := ⟨(-21), by decide +kernel, by decide, rfl⟩
theorem d_Tue_init_38 : zd_l .aload_n .aload b_Tue_init 38 0 39 := Or.inl ⟨0, rfl, by decide +kernel, rfl⟩
theorem d_Tue_init_39 : zd b_Tue_init 39 (.new 18) 3 42 := ⟨by decide +kernel, rfl⟩
theorem d_Tue_init_42 : zd b_Tue_init 42 .dup 1 43 := ⟨by decide +kernel, rfl⟩
theorem d_Tue_init_43 : zd b_Tue_init 43 (.invokespecial 20) 3 46 := ⟨by decide +kernel, rfl⟩
theorem d_Tue_init_46 : zd b_Tue_init 46 (.putfield 21) 3 49 := ⟨by decide +kernel, rfl⟩
theorem d_Tue_init_49 : zd_l .aload_n .aload b_Tue_init 49 0 50 := Or.inl ⟨0, rfl, by decide +kernel, rfl⟩
theorem d_Tue_init_50 : zd b_Tue_init 50 (.new 25) 3 53 := ⟨by decide +kernel, rfl⟩
theorem d_Tue_init_53 : zd b_Tue_init 53 .dup 1 54 := ⟨by decide +kernel, rfl⟩
theorem d_Tue_init_54 : zd_l .aload_n .aload b_Tue_init 54 0 55 := Or.inl ⟨0, rfl, by decide +kernel, rfl⟩
theorem d_Tue_init_55 : zd b_Tue_init 55 (.getfield 21) 3 58 := ⟨by decide +kernel, rfl⟩
theorem d_Tue_init_58 : zd b_Tue_init 58 (.invokespecial 27) 3 61 := ⟨by decide +kernel, rfl⟩
theorem d_Tue_init_61 : zd b_Tue_init 61 (.putfield 30) 3 64 := ⟨by decide +kernel, rfl⟩
theorem d_Tue_init_64 : zd_l .aload_n .aload b_Tue_init 64 0 65 := Or.inl ⟨0, rfl, by decide +kernel, rfl⟩
theorem d_Tue_init_65 : zd b_Tue_init 65 (.new 34) 3 68 := ⟨by decide +kernel, rfl⟩
theorem d_Tue_init_68 : zd b_Tue_init 68 .dup 1 69 := ⟨by decide +kernel, rfl⟩
theorem d_Tue_init_69 : zd_l .aload_n .aload b_Tue_init 69 0 70 := Or.inl ⟨0, rfl, by decide +kernel, rfl⟩
theorem d_Tue_init_70 : zd b_Tue_init 70 (.getfield 21) 3 73 := ⟨by decide +kernel, rfl⟩
theorem d_Tue_init_73 : zd b_Tue_init 73 (.invokespecial 36) 3 76 := ⟨by decide +kernel, rfl⟩
theorem d_Tue_init_76 : zd b_Tue_init 76 (.putfield 37) 3 79 := ⟨by decide +kernel, rfl⟩
theorem d_Tue_init_79 : zd_l .aload_n .aload b_Tue_init 79 0 80 := Or.inl ⟨0, rfl, by decide +kernel, rfl⟩
theorem d_Tue_init_80 : zd b_Tue_init 80 (.new 41) 3 83 := ⟨by decide +kernel, rfl⟩
theorem d_Tue_init_83 : zd b_Tue_init 83 .dup 1 84 := ⟨by decide +kernel, rfl⟩
theorem d_Tue_init_84 : zd b_Tue_init 84 (.invokespecial 43) 3 87 := ⟨by decide +kernel, rfl⟩
theorem d_Tue_init_87 : zd b_Tue_init 87 (.putfield 44) 3 90 := ⟨by decide +kernel, rfl⟩
theorem d_Tue_init_90 : zd_l .aload_n .aload b_Tue_init 90 0 91 := Or.inl ⟨0, rfl, by decide +kernel, rfl⟩
theorem d_Tue_init_91 : zd b_Tue_init 91 (.new 48) 3 94 := ⟨by decide +kernel, rfl⟩
theorem d_Tue_init_94 : zd b_Tue_init 94 .dup 1 95 := ⟨by decide +kernel, rfl⟩
theorem d_Tue_init_95 : zd b_Tue_init 95 (.invokespecial 50) 3 98 := ⟨by decide +kernel, rfl⟩
theorem d_Tue_init_98 : zd b_Tue_init 98 (.putfield 51) 3 101 := ⟨by decide +kernel, rfl⟩
theorem d_Tue_init_101 : zd_l .aload_n .aload b_Tue_init 101 0 102 := Or.inl ⟨0, rfl, by decide +kernel, rfl⟩
theorem d_Tue_init_102 : zd_k b_Tue_init "SameTuesday" 102 0 103 := Or.inl ⟨0, by decide +kernel, by decide, rfl⟩
theorem d_Tue_init_103 : zd b_Tue_init 103 (.putfield 55) 3 106 := ⟨by decide +kernel, rfl⟩
theorem d_Tue_init_106 : zd b_Tue_init 106 .return_ 1 107 := ⟨by decide +kernel, rfl⟩
theorem d_Tue_tuesday_0 : zd_l .aload_n .aload b_Tue_tuesday 0 0 1 := Or.inl ⟨0, rfl, by decide +kernel, rfl⟩
theorem d_Tue_tuesday_1 : zd_k b_Tue_tuesday "SameTuesday" 1 0 2 := Or.inl ⟨0, by decide +kernel, by decide, rfl⟩
theorem d_Tue_tuesday_2 : zd b_Tue_tuesday 2 (.putfield 55) 3 5 := ⟨by decide +kernel, rfl⟩
theorem d_Tue_tuesday_5 : zd_l .aload_n .aload b_Tue_tuesday 5 0 6 := Or.inl ⟨0, rfl, by decide +kernel, rfl⟩
theorem d_Tue_tuesday_6 : zd_l .iload_n .iload b_Tue_tuesday 6 1 7 := Or.inl ⟨1, rfl, by decide +kernel, rfl⟩
theorem d_Tue_tuesday_7 : zd b_Tue_tuesday 7 (.invokevirtual 59) 3 10 := ⟨by decide +kernel, rfl⟩
theorem d_Tue_tuesday_10 : zd_l .astore_n .astore b_Tue_tuesday 10 5 12 := Or.inr ⟨by decide +kernel, rfl⟩
theorem d_Tue_tuesday_12 : zd_l .aload_n .aload b_Tue_tuesday 12 5 14 := Or.inr ⟨by decide +kernel, rfl⟩
theorem d_Tue_tuesday_14 : zd_b b_Tue_tuesday 14 .ifnonnull 17 19 := ⟨5, by decide +kernel, by decide, rfl⟩
theorem d_Tue_tuesday_17 : zd_k b_Tue_tuesday "SameTuesday" 17 (-1) 18 := Or.inl ⟨(-1), by decide +kernel, by decide, rfl⟩
theorem d_Tue_tuesday_18 : zd b_Tue_tuesday 18 .ireturn 1 19 := ⟨by decide +kernel, rfl⟩
theorem d_Tue_tuesday_19 : zd_l .aload_n .aload b_Tue_tuesday 19 0 20 := Or.inl ⟨0, rfl, by decide +kernel, rfl⟩
theorem d_Tue_tuesday_20 : zd_l .aload_n .aload b_Tue_tuesday 20 5 22 := Or.inr ⟨by decide +kernel, rfl⟩
theorem d_Tue_tuesday_22 : zd_l .iload_n .iload b_Tue_tuesday 22 2 23 := Or.inl ⟨2, rfl, by decide +kernel, rfl⟩
theorem d_Tue_tuesday_23 : zd_l .iload_n .iload b_Tue_tuesday 23 3 24 := Or.inl ⟨3, rfl, by decide +kernel, rfl⟩
theorem d_Tue_tuesday_24 : zd_l .iload_n .iload b_Tue_tuesday 24 4 26 := Or.inr ⟨by decide +kernel, rfl⟩
theorem d_Tue_tuesday_26 : zd b_Tue_tuesday 26 (.invokevirtual 63) 3 29 := ⟨by decide +kernel, rfl⟩
theorem d_Tue_tuesday_29 : zd_l .istore_n .istore b_Tue_tuesday 29 6 31 := Or.inr ⟨by decide +kernel, rfl⟩
theorem d_Tue_tuesday_31 : zd_l .iload_n .iload b_Tue_tuesday 31 6 33 := Or.inr ⟨by decide +kernel, rfl⟩
theorem d_Tue_tuesday_33 : zd_b b_Tue_tuesday 33 (.ifCond .eq) 36 39 := ⟨6, by decide +kernel, by decide, rfl⟩
theorem d_Tue_tuesday_36 : zd_l .iload_n .iload b_Tue_tuesday 36 6 38 := Or.inr ⟨by decide +kernel, rfl⟩
theorem d_Tue_tuesday_38 : zd b_Tue_tuesday 38 .ireturn 1 39 := ⟨by decide +kernel, rfl⟩
theorem d_Tue_tuesday_39 : zd b_Tue_tuesday 39 (.new 67) 3 42 := ⟨by decide +kernel, rfl⟩
theorem d_Tue_tuesday_42 : zd b_Tue_tuesday 42 .dup 1 43 := ⟨by decide +kernel, rfl⟩
theorem d_Tue_tuesday_43 : zd_l .aload_n .aload b_Tue_tuesday 43 5 45 := Or.inr ⟨by decide +kernel, rfl⟩
theorem d_Tue_tuesday_45 : zd_l .iload_n .iload b_Tue_tuesday 45 3 46 := Or.inl ⟨3, rfl, by decide +kernel, rfl⟩
theorem d_Tue_tuesday_46 : zd_l .iload_n .iload b_Tue_tuesday 46 4 48 := Or.inr ⟨by decide +kernel, rfl⟩
theorem d_Tue_tuesday_48 : zd b_Tue_tuesday 48 (.invokespecial 69) 3 51 := ⟨by decide +kernel, rfl⟩
theorem d_Tue_tuesday_51 : zd_l .astore_n .astore b_Tue_tuesday 51 7 53 := Or.inr ⟨by decide +kernel, rfl⟩
theorem d_Tue_tuesday_53 : zd_l .aload_n .aload b_Tue_tuesday 53 7 55 := Or.inr ⟨by decide +kernel, rfl⟩
theorem d_Tue_tuesday_55 : zd b_Tue_tuesday 55 (.invokevirtual 72) 3 58 := ⟨by decide +kernel, rfl⟩
theorem d_Tue_tuesday_58 : zd_l .istore_n .istore b_Tue_tuesday 58 8 60 := Or.inr ⟨by decide +kernel, rfl⟩
theorem d_Tue_tuesday_60 : zd_l .iload_n .iload b_Tue_tuesday 60 8 62 := Or.inr ⟨by decide +kernel, rfl⟩
theorem d_Tue_tuesday_62 : zd_k b_Tue_tuesday "SameTuesday" 62 (-9) 64 := Or.inr (Or.inl ⟨(-9), by decide +kernel, by decide, rfl⟩)
theorem d_Tue_tuesday_64 : zd_b b_Tue_tuesday 64 (.if_icmp .eq) 67 73 := ⟨9, by decide +kernel, by decide, rfl⟩
theorem d_Tue_tuesday_67 : zd_k b_Tue_tuesday "SameTuesday" 67 (-100) 69 := Or.inr (Or.inl ⟨(-100), by decide +kernel, by decide, rfl⟩)
theorem d_Tue_tuesday_69 : zd_l .iload_n .iload b_Tue_tuesday 69 8 71 := Or.inr ⟨by decide +kernel, rfl⟩
theorem d_Tue_tuesday_71 : zd b_Tue_tuesday 71 .isub 1 72 := ⟨by decide +kernel, rfl⟩
theorem d_Tue_tuesday_72 : zd b_Tue_tuesday 72 .ireturn 1 73 := ⟨by decide +kernel, rfl⟩
theorem d_Tue_tuesday_73 : zd_l .aload_n .aload b_Tue_tuesday 73 0 74 := Or.inl ⟨0, rfl, by decide +kernel, rfl⟩
theorem d_Tue_tuesday_74 : zd b_Tue_tuesday 74 (.getfield 21) 3 77 := ⟨by decide +kernel, rfl⟩
theorem d_Tue_tuesday_77 : zd_l .aload_n .aload b_Tue_tuesday 77 7 79 := Or.inr ⟨by decide +kernel, rfl⟩
theorem d_Tue_tuesday_79 : zd b_Tue_tuesday 79 (.invokevirtual 76) 3 82 := ⟨by decide +kernel, rfl⟩
theorem d_Tue_tuesday_82 : zd_l .aload_n .aload b_Tue_tuesday 82 0 83 := Or.inl ⟨0, rfl, by decide +kernel, rfl⟩
theorem d_Tue_tuesday_83 : zd b_Tue_tuesday 83 (.getfield 44) 3 86 := ⟨by decide +kernel, rfl⟩
theorem d_Tue_tuesday_86 : zd_l .aload_n .aload b_Tue_tuesday 86 0 87 := Or.inl ⟨0, rfl, by decide +kernel, rfl⟩
theorem d_Tue_tuesday_87 : zd b_Tue_tuesday 87 (.getfield 44) 3 90 := ⟨by decide +kernel, rfl⟩
theorem d_Tue_tuesday_90 : zd b_Tue_tuesday 90 (.invokevirtual 80) 3 93 := ⟨by decide +kernel, rfl⟩
theorem d_Tue_tuesday_93 : zd b_Tue_tuesday 93 (.invokevirtual 83) 3 96 := ⟨by decide +kernel, rfl⟩
theorem d_Tue_tuesday_96 : zd_l .aload_n .aload b_Tue_tuesday 96 0 97 := Or.inl ⟨0, rfl, by decide +kernel, rfl⟩
theorem d_Tue_tuesday_97 : zd b_Tue_tuesday 97 (.getfield 37) 3 100 := ⟨by decide +kernel, rfl⟩
theorem d_Tue_tuesday_100 : zd b_Tue_tuesday 100 (.invokevirtual 87) 3 103 := ⟨by decide +kernel, rfl⟩
theorem d_Tue_tuesday_103 : zd_l .aload_n .aload b_Tue_tuesday 103 0 104 := Or.inl ⟨0, rfl, by decide +kernel, rfl⟩
theorem d_Tue_tuesday_104 : zd b_Tue_tuesday 104 (.getfield 21) 3 107 := ⟨by decide +kernel, rfl⟩
theorem d_Tue_tuesday_107 : zd b_Tue_tuesday 107 (.invokevirtual 90) 3 110 := ⟨by decide +kernel, rfl⟩
theorem d_Tue_tuesday_110 : zd b_Tue_tuesday 110 .ireturn 1 111 := ⟨by decide +kernel, rfl⟩
theorem d_Tue_ofHappening_0 : zd_l .aload_n .aload b_Tue_ofHappening 0 0 1 := Or.inl ⟨0, rfl, by decide +kernel, rfl⟩
theorem d_Tue_ofHappening_1 : zd b_Tue_ofHappening 1 (.getfield 21) 3 4 := ⟨by decide +kernel, rfl⟩
theorem d_Tue_ofHappening_4 : zd_l .iload_n .iload b_Tue_ofHappening 4 1 5 := Or.inl ⟨1, rfl, by decide +kernel, rfl⟩
theorem d_Tue_ofHappening_5 : zd b_Tue_ofHappening 5 (.invokevirtual 93) 3 8 := ⟨by decide +kernel, rfl⟩
theorem d_Tue_ofHappening_8 : zd_l .astore_n .astore b_Tue_ofHappening 8 3 9 := Or.inl ⟨3, rfl, by decide +kernel, rfl⟩
theorem d_Tue_ofHappening_9 : zd_l .aload_n .aload b_Tue_ofHappening 9 3 10 := Or.inl ⟨3, rfl, by decide +kernel, rfl⟩
theorem d_Tue_ofHappening_10 : zd_b b_Tue_ofHappening 10 .ifnonnull 13 15 := ⟨5, by decide +kernel, by decide, rfl⟩
theorem d_Tue_ofHappening_13 : zd_k b_Tue_ofHappening "SameTuesday" 13 (-1) 14 := Or.inl ⟨(-1), by decide +kernel, by decide, rfl⟩
theorem d_Tue_ofHappening_14 : zd b_Tue_ofHappening 14 .ireturn 1 15 := ⟨by decide +kernel, rfl⟩
theorem d_Tue_ofHappening_15 : zd_l .iload_n .iload b_Tue_ofHappening 15 2 16 := Or.inl ⟨2, rfl, by decide +kernel, rfl⟩
theorem d_Tue_ofHappening_16 : decode b_Tue_ofHappening 16 = .ok (.tableswitch 52 0 3 #[32, 37, 42, 47], 32) := by decide +kernel
theorem d_Tue_ofHappening_48 : zd_l .aload_n .aload b_Tue_ofHappening 48 3 49 := Or.inl ⟨3, rfl, by decide +kernel, rfl⟩
theorem d_Tue_ofHappening_49 : zd b_Tue_ofHappening 49 (.invokevirtual 97) 3 52 := ⟨by decide +kernel, rfl⟩
theorem d_Tue_ofHappening_52 : zd b_Tue_ofHappening 52 .ireturn 1 53 := ⟨by decide +kernel, rfl⟩
theorem d_Tue_ofHappening_53 : zd_l .aload_n .aload b_Tue_ofHappening 53 3 54 := Or.inl ⟨3, rfl, by decide +kernel, rfl⟩
theorem d_Tue_ofHappening_54 : zd b_Tue_ofHappening 54 (.getfield 102) 3 57 := ⟨by decide +kernel, rfl⟩
theorem d_Tue_ofHappening_57 : zd b_Tue_ofHappening 57 .ireturn 1 58 := ⟨by decide +kernel, rfl⟩
theorem d_Tue_ofHappening_58 : zd_l .aload_n .aload b_Tue_ofHappening 58 3 59 := Or.inl ⟨3, rfl, by decide +kernel, rfl⟩
theorem d_Tue_ofHappening_59 : zd b_Tue_ofHappening 59 (.getfield 105) 3 62 := ⟨by decide +kernel, rfl⟩
theorem d_Tue_ofHappening_62 : zd b_Tue_ofHappening 62 .ireturn 1 63 := ⟨by decide +kernel, rfl⟩
theorem d_Tue_ofHappening_63 : zd_l .aload_n .aload b_Tue_ofHappening 63 3 64 := Or.inl ⟨3, rfl, by decide +kernel, rfl⟩
theorem d_Tue_ofHappening_64 : zd b_Tue_ofHappening 64 (.getfield 108) 3 67 := ⟨by decide +kernel, rfl⟩
theorem d_Tue_ofHappening_67 : zd b_Tue_ofHappening 67 .ireturn 1 68 := ⟨by decide +kernel, rfl⟩
theorem d_Tue_ofHappening_68 : zd_k b_Tue_ofHappening "SameTuesday" 68 (-2) 70 := Or.inr (Or.inl ⟨(-2), by decide +kernel, by decide, rfl⟩)
theorem d_Tue_ofHappening_70 : zd b_Tue_ofHappening 70 .ireturn 1 71 := ⟨by decide +kernel, rfl⟩
theorem d_Tue_ofDeed_0 : zd_l .aload_n .aload b_Tue_ofDeed 0 0 1 := Or.inl ⟨0, rfl, by decide +kernel, rfl⟩
theorem d_Tue_ofDeed_1 : zd b_Tue_ofDeed 1 (.getfield 21) 3 4 := ⟨by decide +kernel, rfl⟩
theorem d_Tue_ofDeed_4 : zd_l .iload_n .iload b_Tue_ofDeed 4 1 5 := Or.inl ⟨1, rfl, by decide +kernel, rfl⟩
theorem d_Tue_ofDeed_5 : zd b_Tue_ofDeed 5 (.invokevirtual 111) 3 8 := ⟨by decide +kernel, rfl⟩
theorem d_Tue_ofDeed_8 : zd_l .astore_n .astore b_Tue_ofDeed 8 3 9 := Or.inl ⟨3, rfl, by decide +kernel, rfl⟩
theorem d_Tue_ofDeed_9 : zd_l .aload_n .aload b_Tue_ofDeed 9 3 10 := Or.inl ⟨3, rfl, by decide +kernel, rfl⟩
theorem d_Tue_ofDeed_10 : zd_b b_Tue_ofDeed 10 .ifnonnull 13 15 := ⟨5, by decide +kernel, by decide, rfl⟩
theorem d_Tue_ofDeed_13 : zd_k b_Tue_ofDeed "SameTuesday" 13 (-1) 14 := Or.inl ⟨(-1), by decide +kernel, by decide, rfl⟩
theorem d_Tue_ofDeed_14 : zd b_Tue_ofDeed 14 .ireturn 1 15 := ⟨by decide +kernel, rfl⟩
theorem d_Tue_ofDeed_15 : zd_l .iload_n .iload b_Tue_ofDeed 15 2 16 := Or.inl ⟨2, rfl, by decide +kernel, rfl⟩
theorem d_Tue_ofDeed_16 : decode b_Tue_ofDeed 16 = .ok (.tableswitch 52 0 3 #[32, 37, 42, 47], 32) := by decide +kernel
theorem d_Tue_ofDeed_48 : zd_l .aload_n .aload b_Tue_ofDeed 48 3 49 := Or.inl ⟨3, rfl, by decide +kernel, rfl⟩
theorem d_Tue_ofDeed_49 : zd b_Tue_ofDeed 49 (.getfield 115) 3 52 := ⟨by decide +kernel, rfl⟩
theorem d_Tue_ofDeed_52 : zd b_Tue_ofDeed 52 .ireturn 1 53 := ⟨by decide +kernel, rfl⟩
theorem d_Tue_ofDeed_53 : zd_l .aload_n .aload b_Tue_ofDeed 53 3 54 := Or.inl ⟨3, rfl, by decide +kernel, rfl⟩
theorem d_Tue_ofDeed_54 : zd b_Tue_ofDeed 54 (.getfield 118) 3 57 := ⟨by decide +kernel, rfl⟩
theorem d_Tue_ofDeed_57 : zd b_Tue_ofDeed 57 .ireturn 1 58 := ⟨by decide +kernel, rfl⟩
theorem d_Tue_ofDeed_58 : zd_l .aload_n .aload b_Tue_ofDeed 58 3 59 := Or.inl ⟨3, rfl, by decide +kernel, rfl⟩
theorem d_Tue_ofDeed_59 : zd b_Tue_ofDeed 59 (.getfield 119) 3 62 := ⟨by decide +kernel, rfl⟩
theorem d_Tue_ofDeed_62 : zd b_Tue_ofDeed 62 .ireturn 1 63 := ⟨by decide +kernel, rfl⟩
theorem d_Tue_ofDeed_63 : zd_l .aload_n .aload b_Tue_ofDeed 63 3 64 := Or.inl ⟨3, rfl, by decide +kernel, rfl⟩
theorem d_Tue_ofDeed_64 : zd b_Tue_ofDeed 64 (.getfield 122) 3 67 := ⟨by decide +kernel, rfl⟩
theorem d_Tue_ofDeed_67 : zd b_Tue_ofDeed 67 .ireturn 1 68 := ⟨by decide +kernel, rfl⟩
theorem d_Tue_ofDeed_68 : zd_k b_Tue_ofDeed "SameTuesday" 68 (-2) 70 := Or.inr (Or.inl ⟨(-2), by decide +kernel, by decide, rfl⟩)
theorem d_Tue_ofDeed_70 : zd b_Tue_ofDeed 70 .ireturn 1 71 := ⟨by decide +kernel, rfl⟩
theorem d_Tue_minutes_0 : zd_l .iload_n .iload b_Tue_minutes 0 1 1 := Or.inl ⟨1, rfl, by decide +kernel, rfl⟩
theorem d_Tue_minutes_1 : zd_k b_Tue_minutes "SameTuesday" 1 1 2 := Or.inl ⟨1, by decide +kernel, by decide, rfl⟩
theorem d_Tue_minutes_2 : zd_b b_Tue_minutes 2 (.if_icmp .lt) 5 11 := ⟨9, by decide +kernel, by decide, rfl⟩
theorem d_Tue_minutes_5 : zd_l .iload_n .iload b_Tue_minutes 5 1 6 := Or.inl ⟨1, rfl, by decide +kernel, rfl⟩
theorem d_Tue_minutes_6 : zd_k b_Tue_minutes "SameTuesday" 6 60 8 := Or.inr (Or.inl ⟨60, by decide +kernel, by decide, rfl⟩)
theorem d_Tue_minutes_8 : zd_b b_Tue_minutes 8 (.if_icmp .le) 11 14 := ⟨6, by decide +kernel, by decide, rfl⟩
theorem d_Tue_minutes_11 : zd_k b_Tue_minutes "SameTuesday" 11 (-2) 13 := Or.inr (Or.inl ⟨(-2), by decide +kernel, by decide, rfl⟩)
theorem d_Tue_minutes_13 : zd b_Tue_minutes 13 .ireturn 1 14 := ⟨by decide +kernel, rfl⟩
theorem d_Tue_minutes_14 : zd_l .aload_n .aload b_Tue_minutes 14 0 15 := Or.inl ⟨0, rfl, by decide +kernel, rfl⟩
theorem d_Tue_minutes_15 : zd b_Tue_minutes 15 (.getfield 21) 3 18 := ⟨by decide +kernel, rfl⟩
theorem d_Tue_minutes_18 : zd b_Tue_minutes 18 (.invokevirtual 125) 3 21 := ⟨by decide +kernel, rfl⟩
theorem d_Tue_minutes_21 : zd_b b_Tue_minutes 21 (.ifCond .ne) 24 27 := ⟨6, by decide +kernel, by decide, rfl⟩
theorem d_Tue_minutes_24 : zd_k b_Tue_minutes "SameTuesday" 24 (-3) 26 := Or.inr (Or.inl ⟨(-3), by decide +kernel, by decide, rfl⟩)
theorem d_Tue_minutes_26 : zd b_Tue_minutes 26 .ireturn 1 27 := ⟨by decide +kernel, rfl⟩
theorem d_Tue_minutes_27 : zd_l .aload_n .aload b_Tue_minutes 27 0 28 := Or.inl ⟨0, rfl, by decide +kernel, rfl⟩
theorem d_Tue_minutes_28 : zd b_Tue_minutes 28 (.getfield 21) 3 31 := ⟨by decide +kernel, rfl⟩
theorem d_Tue_minutes_31 : zd b_Tue_minutes 31 (.invokevirtual 129) 3 34 := ⟨by decide +kernel, rfl⟩
theorem d_Tue_minutes_34 : zd_l .istore_n .istore b_Tue_minutes 34 2 35 := Or.inl ⟨2, rfl, by decide +kernel, rfl⟩
theorem d_Tue_minutes_35 : zd_l .aload_n .aload b_Tue_minutes 35 0 36 := Or.inl ⟨0, rfl, by decide +kernel, rfl⟩
theorem d_Tue_minutes_36 : zd b_Tue_minutes 36 (.getfield 21) 3 39 := ⟨by decide +kernel, rfl⟩
theorem d_Tue_minutes_39 : zd_l .iload_n .iload b_Tue_minutes 39 1 40 := Or.inl ⟨1, rfl, by decide +kernel, rfl⟩
theorem d_Tue_minutes_40 : zd b_Tue_minutes 40 (.invokevirtual 132) 3 43 := ⟨by decide +kernel, rfl⟩
theorem d_Tue_minutes_43 : zd_l .aload_n .aload b_Tue_minutes 43 0 44 := Or.inl ⟨0, rfl, by decide +kernel, rfl⟩
theorem d_Tue_minutes_44 : zd b_Tue_minutes 44 (.getfield 37) 3 47 := ⟨by decide +kernel, rfl⟩
theorem d_Tue_minutes_47 : zd b_Tue_minutes 47 (.invokevirtual 87) 3 50 := ⟨by decide +kernel, rfl⟩
theorem d_Tue_minutes_50 : zd_l .iload_n .iload b_Tue_minutes 50 2 51 := Or.inl ⟨2, rfl, by decide +kernel, rfl⟩
theorem d_Tue_minutes_51 : zd b_Tue_minutes 51 .ireturn 1 52 := ⟨by decide +kernel, rfl⟩
theorem d_Tue_shift_0 : zd_l .aload_n .aload b_Tue_shift 0 0 1 := Or.inl ⟨0, rfl, by decide +kernel, rfl⟩
theorem d_Tue_shift_1 : zd b_Tue_shift 1 (.getfield 21) 3 4 := ⟨by decide +kernel, rfl⟩
theorem d_Tue_shift_4 : zd_l .iload_n .iload b_Tue_shift 4 1 5 := Or.inl ⟨1, rfl, by decide +kernel, rfl⟩
theorem d_Tue_shift_5 : zd b_Tue_shift 5 (.invokevirtual 93) 3 8 := ⟨by decide +kernel, rfl⟩
theorem d_Tue_shift_8 : zd_l .astore_n .astore b_Tue_shift 8 3 9 := Or.inl ⟨3, rfl, by decide +kernel, rfl⟩
theorem d_Tue_shift_9 : zd_l .aload_n .aload b_Tue_shift 9 3 10 := Or.inl ⟨3, rfl, by decide +kernel, rfl⟩
theorem d_Tue_shift_10 : zd_b b_Tue_shift 10 .ifnonnull 13 15 := ⟨5, by decide +kernel, by decide, rfl⟩
theorem d_Tue_shift_13 : zd_k b_Tue_shift "SameTuesday" 13 (-1) 14 := Or.inl ⟨(-1), by decide +kernel, by decide, rfl⟩
theorem d_Tue_shift_14 : zd b_Tue_shift 14 .ireturn 1 15 := ⟨by decide +kernel, rfl⟩
theorem d_Tue_shift_15 : zd_l .iload_n .iload b_Tue_shift 15 2 16 := Or.inl ⟨2, rfl, by decide +kernel, rfl⟩
theorem d_Tue_shift_16 : zd b_Tue_shift 16 (.invokestatic 135) 3 19 := ⟨by decide +kernel, rfl⟩
theorem d_Tue_shift_19 : zd_b b_Tue_shift 19 (.ifCond .ne) 22 25 := ⟨6, by decide +kernel, by decide, rfl⟩
theorem d_Tue_shift_22 : zd_k b_Tue_shift "SameTuesday" 22 (-2) 24 := Or.inr (Or.inl ⟨(-2), by decide +kernel, by decide, rfl⟩)
theorem d_Tue_shift_24 : zd b_Tue_shift 24 .ireturn 1 25 := ⟨by decide +kernel, rfl⟩
theorem d_Tue_shift_25 : zd_l .aload_n .aload b_Tue_shift 25 3 26 := Or.inl ⟨3, rfl, by decide +kernel, rfl⟩
theorem d_Tue_shift_26 : zd b_Tue_shift 26 (.getfield 102) 3 29 := ⟨by decide +kernel, rfl⟩
theorem d_Tue_shift_29 : zd_l .istore_n .istore b_Tue_shift 29 4 31 := Or.inr ⟨by decide +kernel, rfl⟩
theorem d_Tue_shift_31 : zd_l .aload_n .aload b_Tue_shift 31 0 32 := Or.inl ⟨0, rfl, by decide +kernel, rfl⟩
theorem d_Tue_shift_32 : zd b_Tue_shift 32 (.getfield 21) 3 35 := ⟨by decide +kernel, rfl⟩
theorem d_Tue_shift_35 : zd_l .aload_n .aload b_Tue_shift 35 3 36 := Or.inl ⟨3, rfl, by decide +kernel, rfl⟩
theorem d_Tue_shift_36 : zd_l .iload_n .iload b_Tue_shift 36 2 37 := Or.inl ⟨2, rfl, by decide +kernel, rfl⟩
theorem d_Tue_shift_37 : zd b_Tue_shift 37 (.invokevirtual 139) 3 40 := ⟨by decide +kernel, rfl⟩
theorem d_Tue_shift_40 : zd_l .aload_n .aload b_Tue_shift 40 0 41 := Or.inl ⟨0, rfl, by decide +kernel, rfl⟩
theorem d_Tue_shift_41 : zd b_Tue_shift 41 (.getfield 37) 3 44 := ⟨by decide +kernel, rfl⟩
theorem d_Tue_shift_44 : zd b_Tue_shift 44 (.invokevirtual 87) 3 47 := ⟨by decide +kernel, rfl⟩
theorem d_Tue_shift_47 : zd_l .iload_n .iload b_Tue_shift 47 4 49 := Or.inr ⟨by decide +kernel, rfl⟩
theorem d_Tue_shift_49 : zd b_Tue_shift 49 .ireturn 1 50 := ⟨by decide +kernel, rfl⟩
theorem d_Tue_live_0 : zd_l .aload_n .aload b_Tue_live 0 0 1 := Or.inl ⟨0, rfl, by decide +kernel, rfl⟩
theorem d_Tue_live_1 : zd_l .iload_n .iload b_Tue_live 1 1 2 := Or.inl ⟨1, rfl, by decide +kernel, rfl⟩
theorem d_Tue_live_2 : zd_l .iload_n .iload b_Tue_live 2 2 3 := Or.inl ⟨2, rfl, by decide +kernel, rfl⟩
theorem d_Tue_live_3 : zd_l .iload_n .iload b_Tue_live 3 3 4 := Or.inl ⟨3, rfl, by decide +kernel, rfl⟩
theorem d_Tue_live_4 : zd_l .iload_n .iload b_Tue_live 4 4 6 := Or.inr ⟨by decide +kernel, rfl⟩
theorem d_Tue_live_6 : zd_l .iload_n .iload b_Tue_live 6 5 8 := Or.inr ⟨by decide +kernel, rfl⟩
theorem d_Tue_live_8 : zd_b b_Tue_live 8 (.ifCond .eq) 11 17 := ⟨9, by decide +kernel, by decide, rfl⟩
theorem d_Tue_live_11 : zd_l .iload_n .iload b_Tue_live 11 5 13 := Or.inr ⟨by decide +kernel, rfl⟩
theorem d_Tue_live_13 : zd_k b_Tue_live "SameTuesday" 13 1 14 := Or.inl ⟨1, by decide +kernel, by decide, rfl⟩
theorem d_Tue_live_14 : zd_b b_Tue_live 14 (.if_icmp .ne) 17 21 := ⟨7, by decide +kernel, by decide, rfl⟩
theorem d_Tue_live_17 : zd_k b_Tue_live "SameTuesday" 17 1 18 := Or.inl ⟨1, by decide +kernel, by decide, rfl⟩
theorem d_Tue_live_18 : zd_b b_Tue_live 18 .goto 21 22 := ⟨4, by decide +kernel, by decide, rfl⟩
theorem d_Tue_live_21 : zd_k b_Tue_live "SameTuesday" 21 0 22 := Or.inl ⟨0, by decide +kernel, by decide, rfl⟩
theorem d_Tue_live_22 : zd b_Tue_live 22 (.invokevirtual 143) 3 25 := ⟨by decide +kernel, rfl⟩
theorem d_Tue_live_25 : zd_l .istore_n .istore b_Tue_live 25 6 27 := Or.inr ⟨by decide +kernel, rfl⟩
theorem d_Tue_live_27 : zd_l .iload_n .iload b_Tue_live 27 6 29 := Or.inr ⟨by decide +kernel, rfl⟩
theorem d_Tue_live_29 : zd_b b_Tue_live 29 (.ifCond .eq) 32 35 := ⟨6, by decide +kernel, by decide, rfl⟩
theorem d_Tue_live_32 : zd_l .iload_n .iload b_Tue_live 32 6 34 := Or.inr ⟨by decide +kernel, rfl⟩
theorem d_Tue_live_34 : zd b_Tue_live 34 .ireturn 1 35 := ⟨by decide +kernel, rfl⟩
theorem d_Tue_live_35 : zd_l .aload_n .aload b_Tue_live 35 0 36 := Or.inl ⟨0, rfl, by decide +kernel, rfl⟩
theorem d_Tue_live_36 : zd b_Tue_live 36 (.getfield 30) 3 39 := ⟨by decide +kernel, rfl⟩
theorem d_Tue_live_39 : zd_k b_Tue_live "SameTuesday" 39 59 41 := Or.inr (Or.inl ⟨59, by decide +kernel, by decide, rfl⟩)
theorem d_Tue_live_41 : zd_k b_Tue_live "SameTuesday" 41 63 43 := Or.inr (Or.inl ⟨63, by decide +kernel, by decide, rfl⟩)
theorem d_Tue_live_43 : zd b_Tue_live 43 (.invokevirtual 147) 3 46 := ⟨by decide +kernel, rfl⟩
theorem d_Tue_live_46 : zd_l .istore_n .istore b_Tue_live 46 7 48 := Or.inr ⟨by decide +kernel, rfl⟩
theorem d_Tue_live_48 : zd_l .iload_n .iload b_Tue_live 48 5 50 := Or.inr ⟨by decide +kernel, rfl⟩
theorem d_Tue_live_50 : zd_b b_Tue_live 50 (.ifCond .ne) 53 63 := ⟨13, by decide +kernel, by decide, rfl⟩
theorem d_Tue_live_53 : zd_l .aload_n .aload b_Tue_live 53 0 54 := Or.inl ⟨0, rfl, by decide +kernel, rfl⟩
theorem d_Tue_live_54 : zd b_Tue_live 54 (.getfield 30) 3 57 := ⟨by decide +kernel, rfl⟩
theorem d_Tue_live_57 : zd b_Tue_live 57 (.invokevirtual 151) 3 60 := ⟨by decide +kernel, rfl⟩
theorem d_Tue_live_60 : zd_b b_Tue_live 60 .goto 63 65 := ⟨5, by decide +kernel, by decide, rfl⟩
theorem d_Tue_live_63 : zd_l .iload_n .iload b_Tue_live 63 7 65 := Or.inr ⟨by decide +kernel, rfl⟩
theorem d_Tue_live_65 : zd b_Tue_live 65 .ireturn 1 66 := ⟨by decide +kernel, rfl⟩
theorem d_Tue_at_0 : zd_l .aload_n .aload b_Tue_at 0 0 1 := Or.inl ⟨0, rfl, by decide +kernel, rfl⟩
theorem d_Tue_at_1 : zd_l .iload_n .iload b_Tue_at 1 2 2 := Or.inl ⟨2, rfl, by decide +kernel, rfl⟩
theorem d_Tue_at_2 : zd_l .iload_n .iload b_Tue_at 2 3 3 := Or.inl ⟨3, rfl, by decide +kernel, rfl⟩
theorem d_Tue_at_3 : zd_l .iload_n .iload b_Tue_at 3 4 5 := Or.inr ⟨by decide +kernel, rfl⟩
theorem d_Tue_at_5 : zd_l .iload_n .iload b_Tue_at 5 5 7 := Or.inr ⟨by decide +kernel, rfl⟩
theorem d_Tue_at_7 : zd_l .iload_n .iload b_Tue_at 7 1 8 := Or.inl ⟨1, rfl, by decide +kernel, rfl⟩
theorem d_Tue_at_8 : zd b_Tue_at 8 (.invokestatic 135) 3 11 := ⟨by decide +kernel, rfl⟩
theorem d_Tue_at_11 : zd b_Tue_at 11 (.invokevirtual 143) 3 14 := ⟨by decide +kernel, rfl⟩
theorem d_Tue_at_14 : zd_l .istore_n .istore b_Tue_at 14 6 16 := Or.inr ⟨by decide +kernel, rfl⟩
theorem d_Tue_at_16 : zd_l .iload_n .iload b_Tue_at 16 6 18 := Or.inr ⟨by decide +kernel, rfl⟩
theorem d_Tue_at_18 : zd_b b_Tue_at 18 (.ifCond .eq) 21 26 := ⟨8, by decide +kernel, by decide, rfl⟩
theorem d_Tue_at_21 : zd_l .iload_n .iload b_Tue_at 21 6 23 := Or.inr ⟨by decide +kernel, rfl⟩
theorem d_Tue_at_23 : zd_b b_Tue_at 23 .goto 26 36 := ⟨13, by decide +kernel, by decide, rfl⟩
theorem d_Tue_at_26 : zd_l .aload_n .aload b_Tue_at 26 0 27 := Or.inl ⟨0, rfl, by decide +kernel, rfl⟩
theorem d_Tue_at_27 : zd b_Tue_at 27 (.getfield 30) 3 30 := ⟨by decide +kernel, rfl⟩
theorem d_Tue_at_30 : zd_l .iload_n .iload b_Tue_at 30 1 31 := Or.inl ⟨1, rfl, by decide +kernel, rfl⟩
theorem d_Tue_at_31 : zd_k b_Tue_at "SameTuesday" 31 63 33 := Or.inr (Or.inl ⟨63, by decide +kernel, by decide, rfl⟩)
theorem d_Tue_at_33 : zd b_Tue_at 33 (.invokevirtual 147) 3 36 := ⟨by decide +kernel, rfl⟩
theorem d_Tue_at_36 : zd b_Tue_at 36 .ireturn 1 37 := ⟨by decide +kernel, rfl⟩
theorem d_Tue_hangs_0 : zd_l .aload_n .aload b_Tue_hangs 0 0 1 := Or.inl ⟨0, rfl, by decide +kernel, rfl⟩
theorem d_Tue_hangs_1 : zd_l .iload_n .iload b_Tue_hangs 1 1 2 := Or.inl ⟨1, rfl, by decide +kernel, rfl⟩
theorem d_Tue_hangs_2 : zd_l .iload_n .iload b_Tue_hangs 2 2 3 := Or.inl ⟨2, rfl, by decide +kernel, rfl⟩
theorem d_Tue_hangs_3 : zd_l .iload_n .iload b_Tue_hangs 3 3 4 := Or.inl ⟨3, rfl, by decide +kernel, rfl⟩
theorem d_Tue_hangs_4 : zd_l .iload_n .iload b_Tue_hangs 4 4 6 := Or.inr ⟨by decide +kernel, rfl⟩
theorem d_Tue_hangs_6 : zd_k b_Tue_hangs "SameTuesday" 6 1 7 := Or.inl ⟨1, by decide +kernel, by decide, rfl⟩
theorem d_Tue_hangs_7 : zd b_Tue_hangs 7 (.invokevirtual 143) 3 10 := ⟨by decide +kernel, rfl⟩
theorem d_Tue_hangs_10 : zd_l .istore_n .istore b_Tue_hangs 10 5 12 := Or.inr ⟨by decide +kernel, rfl⟩
theorem d_Tue_hangs_12 : zd_l .iload_n .iload b_Tue_hangs 12 5 14 := Or.inr ⟨by decide +kernel, rfl⟩
theorem d_Tue_hangs_14 : zd_b b_Tue_hangs 14 (.ifCond .eq) 17 22 := ⟨8, by decide +kernel, by decide, rfl⟩
theorem d_Tue_hangs_17 : zd_l .iload_n .iload b_Tue_hangs 17 5 19 := Or.inr ⟨by decide +kernel, rfl⟩
theorem d_Tue_hangs_19 : zd_b b_Tue_hangs 19 .goto 22 29 := ⟨10, by decide +kernel, by decide, rfl⟩
theorem d_Tue_hangs_22 : zd_l .aload_n .aload b_Tue_hangs 22 0 23 := Or.inl ⟨0, rfl, by decide +kernel, rfl⟩
theorem d_Tue_hangs_23 : zd b_Tue_hangs 23 (.getfield 30) 3 26 := ⟨by decide +kernel, rfl⟩
theorem d_Tue_hangs_26 : zd b_Tue_hangs 26 (.invokevirtual 154) 3 29 := ⟨by decide +kernel, rfl⟩
theorem d_Tue_hangs_29 : zd b_Tue_hangs 29 .ireturn 1 30 := ⟨by decide +kernel, rfl⟩
theorem d_Tue_can_0 : zd_l .iload_n .iload b_Tue_can 0 1 1 := Or.inl ⟨1, rfl, by decide +kernel, rfl⟩
theorem d_Tue_can_1 : zd b_Tue_can 1 (.invokestatic 135) 3 4 := ⟨by decide +kernel, rfl⟩
theorem d_Tue_can_4 : zd_b b_Tue_can 4 (.ifCond .eq) 7 14 := ⟨10, by decide +kernel, by decide, rfl⟩
theorem d_Tue_can_7 : zd_l .iload_n .iload b_Tue_can 7 2 8 := Or.inl ⟨2, rfl, by decide +kernel, rfl⟩
theorem d_Tue_can_8 : zd b_Tue_can 8 (.invokestatic 157) 3 11 := ⟨by decide +kernel, rfl⟩
theorem d_Tue_can_11 : zd_b b_Tue_can 11 (.ifCond .ne) 14 17 := ⟨6, by decide +kernel, by decide, rfl⟩
theorem d_Tue_can_14 : zd_k b_Tue_can "SameTuesday" 14 (-2) 16 := Or.inr (Or.inl ⟨(-2), by decide +kernel, by decide, rfl⟩)
theorem d_Tue_can_16 : zd b_Tue_can 16 .ireturn 1 17 := ⟨by decide +kernel, rfl⟩
theorem d_Tue_can_17 : zd_l .aload_n .aload b_Tue_can 17 0 18 := Or.inl ⟨0, rfl, by decide +kernel, rfl⟩
theorem d_Tue_can_18 : zd b_Tue_can 18 (.getfield 21) 3 21 := ⟨by decide +kernel, rfl⟩
theorem d_Tue_can_21 : zd b_Tue_can 21 (.invokevirtual 125) 3 24 := ⟨by decide +kernel, rfl⟩
theorem d_Tue_can_24 : zd_b b_Tue_can 24 (.ifCond .ne) 27 30 := ⟨6, by decide +kernel, by decide, rfl⟩
theorem d_Tue_can_27 : zd_k b_Tue_can "SameTuesday" 27 (-3) 29 := Or.inr (Or.inl ⟨(-3), by decide +kernel, by decide, rfl⟩)
theorem d_Tue_can_29 : zd b_Tue_can 29 .ireturn 1 30 := ⟨by decide +kernel, rfl⟩
theorem d_Tue_can_30 : zd_l .aload_n .aload b_Tue_can 30 0 31 := Or.inl ⟨0, rfl, by decide +kernel, rfl⟩
theorem d_Tue_can_31 : zd b_Tue_can 31 (.getfield 37) 3 34 := ⟨by decide +kernel, rfl⟩
theorem d_Tue_can_34 : zd_l .iload_n .iload b_Tue_can 34 1 35 := Or.inl ⟨1, rfl, by decide +kernel, rfl⟩
theorem d_Tue_can_35 : zd b_Tue_can 35 (.invokevirtual 160) 3 38 := ⟨by decide +kernel, rfl⟩
theorem d_Tue_can_38 : zd_l .iload_n .iload b_Tue_can 38 2 39 := Or.inl ⟨2, rfl, by decide +kernel, rfl⟩
theorem d_Tue_can_39 : zd b_Tue_can 39 (.invokestatic 164) 3 42 := ⟨by decide +kernel, rfl⟩
theorem d_Tue_can_42 : zd_b b_Tue_can 42 (.ifCond .eq) 45 49 := ⟨7, by decide +kernel, by decide, rfl⟩
theorem d_Tue_can_45 : zd_k b_Tue_can "SameTuesday" 45 1 46 := Or.inl ⟨1, by decide +kernel, by decide, rfl⟩
theorem d_Tue_can_46 : zd_b b_Tue_can 46 .goto 49 50 := ⟨4, by decide +kernel, by decide, rfl⟩
theorem d_Tue_can_49 : zd_k b_Tue_can "SameTuesday" 49 0 50 := Or.inl ⟨0, by decide +kernel, by decide, rfl⟩
theorem d_Tue_can_50 : zd b_Tue_can 50 .ireturn 1 51 := ⟨by decide +kernel, rfl⟩
theorem d_Tue_soonest_0 : zd_l .iload_n .iload b_Tue_soonest 0 1 1 := Or.inl ⟨1, rfl, by decide +kernel, rfl⟩
theorem d_Tue_soonest_1 : zd b_Tue_soonest 1 (.invokestatic 157) 3 4 := ⟨by decide +kernel, rfl⟩
theorem d_Tue_soonest_4 : zd_b b_Tue_soonest 4 (.ifCond .ne) 7 10 := ⟨6, by decide +kernel, by decide, rfl⟩
theorem d_Tue_soonest_7 : zd_k b_Tue_soonest "SameTuesday" 7 (-2) 9 := Or.inr (Or.inl ⟨(-2), by decide +kernel, by decide, rfl⟩)
theorem d_Tue_soonest_9 : zd b_Tue_soonest 9 .ireturn 1 10 := ⟨by decide +kernel, rfl⟩
theorem d_Tue_soonest_10 : zd_l .aload_n .aload b_Tue_soonest 10 0 11 := Or.inl ⟨0, rfl, by decide +kernel, rfl⟩
theorem d_Tue_soonest_11 : zd b_Tue_soonest 11 (.getfield 21) 3 14 := ⟨by decide +kernel, rfl⟩
theorem d_Tue_soonest_14 : zd b_Tue_soonest 14 (.invokevirtual 125) 3 17 := ⟨by decide +kernel, rfl⟩
theorem d_Tue_soonest_17 : zd_b b_Tue_soonest 17 (.ifCond .eq) 20 31 := ⟨14, by decide +kernel, by decide, rfl⟩
theorem d_Tue_soonest_20 : zd_l .aload_n .aload b_Tue_soonest 20 0 21 := Or.inl ⟨0, rfl, by decide +kernel, rfl⟩
theorem d_Tue_soonest_21 : zd b_Tue_soonest 21 (.getfield 37) 3 24 := ⟨by decide +kernel, rfl⟩
theorem d_Tue_soonest_24 : zd_l .iload_n .iload b_Tue_soonest 24 1 25 := Or.inl ⟨1, rfl, by decide +kernel, rfl⟩
theorem d_Tue_soonest_25 : zd b_Tue_soonest 25 (.invokevirtual 168) 3 28 := ⟨by decide +kernel, rfl⟩
theorem d_Tue_soonest_28 : zd_b b_Tue_soonest 28 .goto 31 33 := ⟨5, by decide +kernel, by decide, rfl⟩
theorem d_Tue_soonest_31 : zd_k b_Tue_soonest "SameTuesday" 31 (-3) 33 := Or.inr (Or.inl ⟨(-3), by decide +kernel, by decide, rfl⟩)
theorem d_Tue_soonest_33 : zd b_Tue_soonest 33 .ireturn 1 34 := ⟨by decide +kernel, rfl⟩
theorem d_Tue_bar_0 : zd_l .iload_n .iload b_Tue_bar 0 1 1 := Or.inl ⟨1, rfl, by decide +kernel, rfl⟩
theorem d_Tue_bar_1 : zd b_Tue_bar 1 (.invokestatic 157) 3 4 := ⟨by decide +kernel, rfl⟩
theorem d_Tue_bar_4 : zd_b b_Tue_bar 4 (.ifCond .ne) 7 10 := ⟨6, by decide +kernel, by decide, rfl⟩
theorem d_Tue_bar_7 : zd_k b_Tue_bar "SameTuesday" 7 (-2) 9 := Or.inr (Or.inl ⟨(-2), by decide +kernel, by decide, rfl⟩)
theorem d_Tue_bar_9 : zd b_Tue_bar 9 .ireturn 1 10 := ⟨by decide +kernel, rfl⟩
theorem d_Tue_bar_10 : zd_l .aload_n .aload b_Tue_bar 10 0 11 := Or.inl ⟨0, rfl, by decide +kernel, rfl⟩
theorem d_Tue_bar_11 : zd b_Tue_bar 11 (.getfield 21) 3 14 := ⟨by decide +kernel, rfl⟩
theorem d_Tue_bar_14 : zd b_Tue_bar 14 (.invokevirtual 125) 3 17 := ⟨by decide +kernel, rfl⟩
theorem d_Tue_bar_17 : zd_b b_Tue_bar 17 (.ifCond .eq) 20 31 := ⟨14, by decide +kernel, by decide, rfl⟩
theorem d_Tue_bar_20 : zd_l .aload_n .aload b_Tue_bar 20 0 21 := Or.inl ⟨0, rfl, by decide +kernel, rfl⟩
theorem d_Tue_bar_21 : zd b_Tue_bar 21 (.getfield 37) 3 24 := ⟨by decide +kernel, rfl⟩
theorem d_Tue_bar_24 : zd_l .iload_n .iload b_Tue_bar 24 1 25 := Or.inl ⟨1, rfl, by decide +kernel, rfl⟩
theorem d_Tue_bar_25 : zd b_Tue_bar 25 (.invokevirtual 172) 3 28 := ⟨by decide +kernel, rfl⟩
theorem d_Tue_bar_28 : zd_b b_Tue_bar 28 .goto 31 33 := ⟨5, by decide +kernel, by decide, rfl⟩
theorem d_Tue_bar_31 : zd_k b_Tue_bar "SameTuesday" 31 (-3) 33 := Or.inr (Or.inl ⟨(-3), by decide +kernel, by decide, rfl⟩)
theorem d_Tue_bar_33 : zd b_Tue_bar 33 .ireturn 1 34 := ⟨by decide +kernel, rfl⟩
theorem d_Tue_day_0 : zd_l .iload_n .iload b_Tue_day 0 1 1 := Or.inl ⟨1, rfl, by decide +kernel, rfl⟩
theorem d_Tue_day_1 : zd b_Tue_day 1 (.invokestatic 157) 3 4 := ⟨by decide +kernel, rfl⟩
theorem d_Tue_day_4 : zd_b b_Tue_day 4 (.ifCond .ne) 7 10 := ⟨6, by decide +kernel, by decide, rfl⟩
theorem d_Tue_day_7 : zd_k b_Tue_day "SameTuesday" 7 (-2) 9 := Or.inr (Or.inl ⟨(-2), by decide +kernel, by decide, rfl⟩)
theorem d_Tue_day_9 : zd b_Tue_day 9 .ireturn 1 10 := ⟨by decide +kernel, rfl⟩
theorem d_Tue_day_10 : zd_l .aload_n .aload b_Tue_day 10 0 11 := Or.inl ⟨0, rfl, by decide +kernel, rfl⟩
theorem d_Tue_day_11 : zd b_Tue_day 11 (.getfield 21) 3 14 := ⟨by decide +kernel, rfl⟩
theorem d_Tue_day_14 : zd b_Tue_day 14 (.invokevirtual 125) 3 17 := ⟨by decide +kernel, rfl⟩
theorem d_Tue_day_17 : zd_b b_Tue_day 17 (.ifCond .ne) 20 23 := ⟨6, by decide +kernel, by decide, rfl⟩
theorem d_Tue_day_20 : zd_k b_Tue_day "SameTuesday" 20 (-3) 22 := Or.inr (Or.inl ⟨(-3), by decide +kernel, by decide, rfl⟩)
theorem d_Tue_day_22 : zd b_Tue_day 22 .ireturn 1 23 := ⟨by decide +kernel, rfl⟩
theorem d_Tue_day_23 : zd_l .aload_n .aload b_Tue_day 23 0 24 := Or.inl ⟨0, rfl, by decide +kernel, rfl⟩
theorem d_Tue_day_24 : zd b_Tue_day 24 (.getfield 44) 3 27 := ⟨by decide +kernel, rfl⟩
theorem d_Tue_day_27 : zd b_Tue_day 27 (.invokevirtual 175) 3 30 := ⟨by decide +kernel, rfl⟩
theorem d_Tue_day_30 : zd_b b_Tue_day 30 (.ifCond .eq) 33 36 := ⟨6, by decide +kernel, by decide, rfl⟩
theorem d_Tue_day_33 : zd_k b_Tue_day "SameTuesday" 33 (-4) 35 := Or.inr (Or.inl ⟨(-4), by decide +kernel, by decide, rfl⟩)
theorem d_Tue_day_35 : zd b_Tue_day 35 .ireturn 1 36 := ⟨by decide +kernel, rfl⟩
theorem d_Tue_day_36 : zd_l .aload_n .aload b_Tue_day 36 0 37 := Or.inl ⟨0, rfl, by decide +kernel, rfl⟩
theorem d_Tue_day_37 : zd b_Tue_day 37 (.getfield 44) 3 40 := ⟨by decide +kernel, rfl⟩
theorem d_Tue_day_40 : zd_l .iload_n .iload b_Tue_day 40 1 41 := Or.inl ⟨1, rfl, by decide +kernel, rfl⟩
theorem d_Tue_day_41 : zd b_Tue_day 41 (.invokevirtual 178) 3 44 := ⟨by decide +kernel, rfl⟩
theorem d_Tue_day_44 : zd_l .aload_n .aload b_Tue_day 44 0 45 := Or.inl ⟨0, rfl, by decide +kernel, rfl⟩
theorem d_Tue_day_45 : zd b_Tue_day 45 (.getfield 44) 3 48 := ⟨by decide +kernel, rfl⟩
theorem d_Tue_day_48 : zd b_Tue_day 48 (.invokevirtual 80) 3 51 := ⟨by decide +kernel, rfl⟩
theorem d_Tue_day_51 : zd_k b_Tue_day "SameTuesday" 51 1 52 := Or.inl ⟨1, by decide +kernel, by decide, rfl⟩
theorem d_Tue_day_52 : zd b_Tue_day 52 .isub 1 53 := ⟨by decide +kernel, rfl⟩
theorem d_Tue_day_53 : zd b_Tue_day 53 .ireturn 1 54 := ⟨by decide +kernel, rfl⟩
theorem d_Tue_forget_0 : zd_l .iload_n .iload b_Tue_forget 0 1 1 := Or.inl ⟨1, rfl, by decide +kernel, rfl⟩
theorem d_Tue_forget_1 : zd_b b_Tue_forget 1 (.ifCond .lt) 4 15 := ⟨14, by decide +kernel, by decide, rfl⟩
theorem d_Tue_forget_4 : zd_l .iload_n .iload b_Tue_forget 4 1 5 := Or.inl ⟨1, rfl, by decide +kernel, rfl⟩
theorem d_Tue_forget_5 : zd_l .aload_n .aload b_Tue_forget 5 0 6 := Or.inl ⟨0, rfl, by decide +kernel, rfl⟩
theorem d_Tue_forget_6 : zd b_Tue_forget 6 (.getfield 44) 3 9 := ⟨by decide +kernel, rfl⟩
theorem d_Tue_forget_9 : zd b_Tue_forget 9 (.invokevirtual 80) 3 12 := ⟨by decide +kernel, rfl⟩
theorem d_Tue_forget_12 : zd_b b_Tue_forget 12 (.if_icmp .le) 15 18 := ⟨6, by decide +kernel, by decide, rfl⟩
theorem d_Tue_forget_15 : zd_k b_Tue_forget "SameTuesday" 15 (-2) 17 := Or.inr (Or.inl ⟨(-2), by decide +kernel, by decide, rfl⟩)
theorem d_Tue_forget_17 : zd b_Tue_forget 17 .ireturn 1 18 := ⟨by decide +kernel, rfl⟩
theorem d_Tue_forget_18 : zd_l .aload_n .aload b_Tue_forget 18 0 19 := Or.inl ⟨0, rfl, by decide +kernel, rfl⟩
theorem d_Tue_forget_19 : zd b_Tue_forget 19 (.getfield 44) 3 22 := ⟨by decide +kernel, rfl⟩
theorem d_Tue_forget_22 : zd_l .iload_n .iload b_Tue_forget 22 1 23 := Or.inl ⟨1, rfl, by decide +kernel, rfl⟩
theorem d_Tue_forget_23 : zd b_Tue_forget 23 (.invokevirtual 83) 3 26 := ⟨by decide +kernel, rfl⟩
theorem d_Tue_forget_26 : zd_l .aload_n .aload b_Tue_forget 26 0 27 := Or.inl ⟨0, rfl, by decide +kernel, rfl⟩
theorem d_Tue_forget_27 : zd b_Tue_forget 27 (.getfield 44) 3 30 := ⟨by decide +kernel, rfl⟩
theorem d_Tue_forget_30 : zd b_Tue_forget 30 (.invokevirtual 80) 3 33 := ⟨by decide +kernel, rfl⟩
theorem d_Tue_forget_33 : zd b_Tue_forget 33 .ireturn 1 34 := ⟨by decide +kernel, rfl⟩
theorem d_Tue_laws_0 : zd_l .iload_n .iload b_Tue_laws 0 1 1 := Or.inl ⟨1, rfl, by decide +kernel, rfl⟩
theorem d_Tue_laws_1 : zd_k b_Tue_laws "SameTuesday" 1 (-1) 2 := Or.inl ⟨(-1), by decide +kernel, by decide, rfl⟩
theorem d_Tue_laws_2 : zd_b b_Tue_laws 2 (.if_icmp .ge) 5 7 := ⟨5, by decide +kernel, by decide, rfl⟩
theorem d_Tue_laws_5 : zd_k b_Tue_laws "SameTuesday" 5 (-1) 6 := Or.inl ⟨(-1), by decide +kernel, by decide, rfl⟩
theorem d_Tue_laws_6 : zd b_Tue_laws 6 .ireturn 1 7 := ⟨by decide +kernel, rfl⟩
theorem d_Tue_laws_7 : zd_l .aload_n .aload b_Tue_laws 7 0 8 := Or.inl ⟨0, rfl, by decide +kernel, rfl⟩
theorem d_Tue_laws_8 : zd b_Tue_laws 8 (.getfield 21) 3 11 := ⟨by decide +kernel, rfl⟩
theorem d_Tue_laws_11 : zd b_Tue_laws 11 (.invokevirtual 125) 3 14 := ⟨by decide +kernel, rfl⟩
theorem d_Tue_laws_14 : zd_b b_Tue_laws 14 (.ifCond .ne) 17 20 := ⟨6, by decide +kernel, by decide, rfl⟩
theorem d_Tue_laws_17 : zd_k b_Tue_laws "SameTuesday" 17 (-3) 19 := Or.inr (Or.inl ⟨(-3), by decide +kernel, by decide, rfl⟩)
theorem d_Tue_laws_19 : zd b_Tue_laws 19 .ireturn 1 20 := ⟨by decide +kernel, rfl⟩
theorem d_Tue_laws_20 : zd_l .iload_n .iload b_Tue_laws 20 1 21 := Or.inl ⟨1, rfl, by decide +kernel, rfl⟩
theorem d_Tue_laws_21 : zd_k b_Tue_laws "SameTuesday" 21 (-1) 22 := Or.inl ⟨(-1), by decide +kernel, by decide, rfl⟩
theorem d_Tue_laws_22 : zd_b b_Tue_laws 22 (.if_icmp .ne) 25 38 := ⟨16, by decide +kernel, by decide, rfl⟩
theorem d_Tue_laws_25 : zd_l .aload_n .aload b_Tue_laws 25 0 26 := Or.inl ⟨0, rfl, by decide +kernel, rfl⟩
theorem d_Tue_laws_26 : zd b_Tue_laws 26 (.getfield 44) 3 29 := ⟨by decide +kernel, rfl⟩
theorem d_Tue_laws_29 : zd b_Tue_laws 29 (.invokevirtual 181) 3 32 := ⟨by decide +kernel, rfl⟩
theorem d_Tue_laws_32 : zd b_Tue_laws 32 (.invokestatic 185) 3 35 := ⟨by decide +kernel, rfl⟩
theorem d_Tue_laws_35 : zd_b b_Tue_laws 35 .goto 38 46 := ⟨11, by decide +kernel, by decide, rfl⟩
theorem d_Tue_laws_38 : zd_l .aload_n .aload b_Tue_laws 38 0 39 := Or.inl ⟨0, rfl, by decide +kernel, rfl⟩
theorem d_Tue_laws_39 : zd b_Tue_laws 39 (.getfield 44) 3 42 := ⟨by decide +kernel, rfl⟩
theorem d_Tue_laws_42 : zd_l .iload_n .iload b_Tue_laws 42 1 43 := Or.inl ⟨1, rfl, by decide +kernel, rfl⟩
theorem d_Tue_laws_43 : zd b_Tue_laws 43 (.invokevirtual 189) 3 46 := ⟨by decide +kernel, rfl⟩
theorem d_Tue_laws_46 : zd b_Tue_laws 46 .ireturn 1 47 := ⟨by decide +kernel, rfl⟩
theorem d_Tue_fewest_0 : zd_l .aload_n .aload b_Tue_fewest 0 0 1 := Or.inl ⟨0, rfl, by decide +kernel, rfl⟩
theorem d_Tue_fewest_1 : zd b_Tue_fewest 1 (.getfield 21) 3 4 := ⟨by decide +kernel, rfl⟩
theorem d_Tue_fewest_4 : zd b_Tue_fewest 4 (.invokevirtual 125) 3 7 := ⟨by decide +kernel, rfl⟩
theorem d_Tue_fewest_7 : zd_b b_Tue_fewest 7 (.ifCond .eq) 10 20 := ⟨13, by decide +kernel, by decide, rfl⟩
theorem d_Tue_fewest_10 : zd_l .aload_n .aload b_Tue_fewest 10 0 11 := Or.inl ⟨0, rfl, by decide +kernel, rfl⟩
theorem d_Tue_fewest_11 : zd b_Tue_fewest 11 (.getfield 44) 3 14 := ⟨by decide +kernel, rfl⟩
theorem d_Tue_fewest_14 : zd b_Tue_fewest 14 (.invokevirtual 192) 3 17 := ⟨by decide +kernel, rfl⟩
theorem d_Tue_fewest_17 : zd_b b_Tue_fewest 17 .goto 20 22 := ⟨5, by decide +kernel, by decide, rfl⟩
theorem d_Tue_fewest_20 : zd_k b_Tue_fewest "SameTuesday" 20 (-3) 22 := Or.inr (Or.inl ⟨(-3), by decide +kernel, by decide, rfl⟩)
theorem d_Tue_fewest_22 : zd b_Tue_fewest 22 .ireturn 1 23 := ⟨by decide +kernel, rfl⟩
theorem d_Tue_next_0 : zd_l .iload_n .iload b_Tue_next 0 1 1 := Or.inl ⟨1, rfl, by decide +kernel, rfl⟩
theorem d_Tue_next_1 : zd_b b_Tue_next 1 (.ifCond .eq) 4 12 := ⟨11, by decide +kernel, by decide, rfl⟩
theorem d_Tue_next_4 : zd_l .iload_n .iload b_Tue_next 4 1 5 := Or.inl ⟨1, rfl, by decide +kernel, rfl⟩
theorem d_Tue_next_5 : zd_k b_Tue_next "SameTuesday" 5 1 6 := Or.inl ⟨1, by decide +kernel, by decide, rfl⟩
theorem d_Tue_next_6 : zd_b b_Tue_next 6 (.if_icmp .eq) 9 12 := ⟨6, by decide +kernel, by decide, rfl⟩
theorem d_Tue_next_9 : zd_k b_Tue_next "SameTuesday" 9 (-2) 11 := Or.inr (Or.inl ⟨(-2), by decide +kernel, by decide, rfl⟩)
theorem d_Tue_next_11 : zd b_Tue_next 11 .ireturn 1 12 := ⟨by decide +kernel, rfl⟩
theorem d_Tue_next_12 : zd_l .aload_n .aload b_Tue_next 12 0 13 := Or.inl ⟨0, rfl, by decide +kernel, rfl⟩
theorem d_Tue_next_13 : zd b_Tue_next 13 (.getfield 21) 3 16 := ⟨by decide +kernel, rfl⟩
theorem d_Tue_next_16 : zd b_Tue_next 16 (.invokevirtual 125) 3 19 := ⟨by decide +kernel, rfl⟩
theorem d_Tue_next_19 : zd_b b_Tue_next 19 (.ifCond .ne) 22 25 := ⟨6, by decide +kernel, by decide, rfl⟩
theorem d_Tue_next_22 : zd_k b_Tue_next "SameTuesday" 22 (-3) 24 := Or.inr (Or.inl ⟨(-3), by decide +kernel, by decide, rfl⟩)
theorem d_Tue_next_24 : zd b_Tue_next 24 .ireturn 1 25 := ⟨by decide +kernel, rfl⟩
theorem d_Tue_next_25 : zd_l .aload_n .aload b_Tue_next 25 0 26 := Or.inl ⟨0, rfl, by decide +kernel, rfl⟩
theorem d_Tue_next_26 : zd b_Tue_next 26 (.getfield 44) 3 29 := ⟨by decide +kernel, rfl⟩
theorem d_Tue_next_29 : zd_l .aload_n .aload b_Tue_next 29 0 30 := Or.inl ⟨0, rfl, by decide +kernel, rfl⟩
theorem d_Tue_next_30 : zd b_Tue_next 30 (.getfield 37) 3 33 := ⟨by decide +kernel, rfl⟩
theorem d_Tue_next_33 : zd_k b_Tue_next "SameTuesday" 33 59 35 := Or.inr (Or.inl ⟨59, by decide +kernel, by decide, rfl⟩)
theorem d_Tue_next_35 : zd b_Tue_next 35 (.invokevirtual 160) 3 38 := ⟨by decide +kernel, rfl⟩
theorem d_Tue_next_38 : zd b_Tue_next 38 (.invokevirtual 195) 3 41 := ⟨by decide +kernel, rfl⟩
theorem d_Tue_next_41 : zd_l .istore_n .istore b_Tue_next 41 2 42 := Or.inl ⟨2, rfl, by decide +kernel, rfl⟩
theorem d_Tue_next_42 : zd_l .iload_n .iload b_Tue_next 42 1 43 := Or.inl ⟨1, rfl, by decide +kernel, rfl⟩
theorem d_Tue_next_43 : zd_b b_Tue_next 43 (.ifCond .ne) 46 50 := ⟨7, by decide +kernel, by decide, rfl⟩
theorem d_Tue_next_46 : zd_l .iload_n .iload b_Tue_next 46 2 47 := Or.inl ⟨2, rfl, by decide +kernel, rfl⟩
theorem d_Tue_next_47 : zd_b b_Tue_next 47 .goto 50 61 := ⟨14, by decide +kernel, by decide, rfl⟩
theorem d_Tue_next_50 : zd_l .aload_n .aload b_Tue_next 50 0 51 := Or.inl ⟨0, rfl, by decide +kernel, rfl⟩
theorem d_Tue_next_51 : zd b_Tue_next 51 (.getfield 44) 3 54 := ⟨by decide +kernel, rfl⟩
theorem d_Tue_next_54 : zd b_Tue_next 54 (.invokevirtual 181) 3 57 := ⟨by decide +kernel, rfl⟩
theorem d_Tue_next_57 : zd_l .iload_n .iload b_Tue_next 57 2 58 := Or.inl ⟨2, rfl, by decide +kernel, rfl⟩
theorem d_Tue_next_58 : zd b_Tue_next 58 (.invokestatic 198) 3 61 := ⟨by decide +kernel, rfl⟩
theorem d_Tue_next_61 : zd b_Tue_next 61 .ireturn 1 62 := ⟨by decide +kernel, rfl⟩
theorem d_Tue_others_0 : zd_l .aload_n .aload b_Tue_others 0 0 1 := Or.inl ⟨0, rfl, by decide +kernel, rfl⟩
theorem d_Tue_others_1 : zd_k b_Tue_others "SameTuesday" 1 0 2 := Or.inl ⟨0, by decide +kernel, by decide, rfl⟩
theorem d_Tue_others_2 : zd b_Tue_others 2 (.putfield 55) 3 5 := ⟨by decide +kernel, rfl⟩
theorem d_Tue_others_5 : zd_l .iload_n .iload b_Tue_others 5 2 6 := Or.inl ⟨2, rfl, by decide +kernel, rfl⟩
theorem d_Tue_others_6 : zd_k b_Tue_others "SameTuesday" 6 (-1) 7 := Or.inl ⟨(-1), by decide +kernel, by decide, rfl⟩
theorem d_Tue_others_7 : zd_b b_Tue_others 7 (.if_icmp .ge) 10 12 := ⟨5, by decide +kernel, by decide, rfl⟩
theorem d_Tue_others_10 : zd_k b_Tue_others "SameTuesday" 10 (-1) 11 := Or.inl ⟨(-1), by decide +kernel, by decide, rfl⟩
theorem d_Tue_others_11 : zd b_Tue_others 11 .ireturn 1 12 := ⟨by decide +kernel, rfl⟩
theorem d_Tue_others_12 : zd_l .aload_n .aload b_Tue_others 12 0 13 := Or.inl ⟨0, rfl, by decide +kernel, rfl⟩
theorem d_Tue_others_13 : zd_l .iload_n .iload b_Tue_others 13 3 14 := Or.inl ⟨3, rfl, by decide +kernel, rfl⟩
theorem d_Tue_others_14 : zd_l .iload_n .iload b_Tue_others 14 4 16 := Or.inr ⟨by decide +kernel, rfl⟩
theorem d_Tue_others_16 : zd_l .iload_n .iload b_Tue_others 16 5 18 := Or.inr ⟨by decide +kernel, rfl⟩
theorem d_Tue_others_18 : zd_l .iload_n .iload b_Tue_others 18 6 20 := Or.inr ⟨by decide +kernel, rfl⟩
theorem d_Tue_others_20 : zd_l .iload_n .iload b_Tue_others 20 1 21 := Or.inl ⟨1, rfl, by decide +kernel, rfl⟩
theorem d_Tue_others_21 : zd b_Tue_others 21 (.invokestatic 157) 3 24 := ⟨by decide +kernel, rfl⟩
theorem d_Tue_others_24 : zd b_Tue_others 24 (.invokevirtual 143) 3 27 := ⟨by decide +kernel, rfl⟩
theorem d_Tue_others_27 : zd_l .istore_n .istore b_Tue_others 27 7 29 := Or.inr ⟨by decide +kernel, rfl⟩
theorem d_Tue_others_29 : zd_l .iload_n .iload b_Tue_others 29 7 31 := Or.inr ⟨by decide +kernel, rfl⟩
theorem d_Tue_others_31 : zd_b b_Tue_others 31 (.ifCond .eq) 34 39 := ⟨8, by decide +kernel, by decide, rfl⟩
theorem d_Tue_others_34 : zd_l .iload_n .iload b_Tue_others 34 7 36 := Or.inr ⟨by decide +kernel, rfl⟩
theorem d_Tue_others_36 : zd_b b_Tue_others 36 .goto 39 48 := ⟨12, by decide +kernel, by decide, rfl⟩
theorem d_Tue_others_39 : zd_l .aload_n .aload b_Tue_others 39 0 40 := Or.inl ⟨0, rfl, by decide +kernel, rfl⟩
theorem d_Tue_others_40 : zd b_Tue_others 40 (.getfield 30) 3 43 := ⟨by decide +kernel, rfl⟩
theorem d_Tue_others_43 : zd_l .iload_n .iload b_Tue_others 43 1 44 := Or.inl ⟨1, rfl, by decide +kernel, rfl⟩
theorem d_Tue_others_44 : zd_l .iload_n .iload b_Tue_others 44 2 45 := Or.inl ⟨2, rfl, by decide +kernel, rfl⟩
theorem d_Tue_others_45 : zd b_Tue_others 45 (.invokevirtual 202) 3 48 := ⟨by decide +kernel, rfl⟩
theorem d_Tue_others_48 : zd b_Tue_others 48 .ireturn 1 49 := ⟨by decide +kernel, rfl⟩
theorem d_Tue_odds_0 : zd_l .aload_n .aload b_Tue_odds 0 0 1 := Or.inl ⟨0, rfl, by decide +kernel, rfl⟩
theorem d_Tue_odds_1 : zd_l .iload_n .iload b_Tue_odds 1 2 2 := Or.inl ⟨2, rfl, by decide +kernel, rfl⟩
theorem d_Tue_odds_2 : zd_l .iload_n .iload b_Tue_odds 2 3 3 := Or.inl ⟨3, rfl, by decide +kernel, rfl⟩
theorem d_Tue_odds_3 : zd_l .iload_n .iload b_Tue_odds 3 4 5 := Or.inr ⟨by decide +kernel, rfl⟩
theorem d_Tue_odds_5 : zd_l .iload_n .iload b_Tue_odds 5 5 7 := Or.inr ⟨by decide +kernel, rfl⟩
theorem d_Tue_odds_7 : zd_l .iload_n .iload b_Tue_odds 7 1 8 := Or.inl ⟨1, rfl, by decide +kernel, rfl⟩
theorem d_Tue_odds_8 : zd b_Tue_odds 8 (.invokestatic 157) 3 11 := ⟨by decide +kernel, rfl⟩
theorem d_Tue_odds_11 : zd_b b_Tue_odds 11 (.ifCond .eq) 14 29 := ⟨18, by decide +kernel, by decide, rfl⟩
theorem d_Tue_odds_14 : zd_l .iload_n .iload b_Tue_odds 14 6 16 := Or.inr ⟨by decide +kernel, rfl⟩
theorem d_Tue_odds_16 : zd_b b_Tue_odds 16 (.ifCond .eq) 19 25 := ⟨9, by decide +kernel, by decide, rfl⟩
theorem d_Tue_odds_19 : zd_l .iload_n .iload b_Tue_odds 19 6 21 := Or.inr ⟨by decide +kernel, rfl⟩
theorem d_Tue_odds_21 : zd_k b_Tue_odds "SameTuesday" 21 1 22 := Or.inl ⟨1, by decide +kernel, by decide, rfl⟩
theorem d_Tue_odds_22 : zd_b b_Tue_odds 22 (.if_icmp .ne) 25 29 := ⟨7, by decide +kernel, by decide, rfl⟩
theorem d_Tue_odds_25 : zd_k b_Tue_odds "SameTuesday" 25 1 26 := Or.inl ⟨1, by decide +kernel, by decide, rfl⟩
theorem d_Tue_odds_26 : zd_b b_Tue_odds 26 .goto 29 30 := ⟨4, by decide +kernel, by decide, rfl⟩
theorem d_Tue_odds_29 : zd_k b_Tue_odds "SameTuesday" 29 0 30 := Or.inl ⟨0, by decide +kernel, by decide, rfl⟩
theorem d_Tue_odds_30 : zd b_Tue_odds 30 (.invokevirtual 143) 3 33 := ⟨by decide +kernel, rfl⟩
theorem d_Tue_odds_33 : zd_l .istore_n .istore b_Tue_odds 33 7 35 := Or.inr ⟨by decide +kernel, rfl⟩
theorem d_Tue_odds_35 : zd_l .iload_n .iload b_Tue_odds 35 7 37 := Or.inr ⟨by decide +kernel, rfl⟩
theorem d_Tue_odds_37 : zd_b b_Tue_odds 37 (.ifCond .eq) 40 44 := ⟨7, by decide +kernel, by decide, rfl⟩
set_option maxRecDepth 20000 in
theorem d_Tue_odds_40 : zd_kl b_Tue_odds "SameTuesday" 40 (-9223372036854775808) 43 := Or.inr ⟨205, by decide +kernel, zb_mem 779 rfl rfl, rfl⟩
theorem d_Tue_odds_43 : zd b_Tue_odds 43 .lreturn 1 44 := ⟨by decide +kernel, rfl⟩
theorem d_Tue_odds_44 : zd_k b_Tue_odds "SameTuesday" 44 1 45 := Or.inl ⟨1, by decide +kernel, by decide, rfl⟩
theorem d_Tue_odds_45 : zd_l .aload_n .aload b_Tue_odds 45 0 46 := Or.inl ⟨0, rfl, by decide +kernel, rfl⟩
theorem d_Tue_odds_46 : zd b_Tue_odds 46 (.getfield 21) 3 49 := ⟨by decide +kernel, rfl⟩
theorem d_Tue_odds_49 : zd b_Tue_odds 49 (.invokevirtual 90) 3 52 := ⟨by decide +kernel, rfl⟩
theorem d_Tue_odds_52 : zd b_Tue_odds 52 .ishl 1 53 := ⟨by decide +kernel, rfl⟩
theorem d_Tue_odds_53 : zd_l .istore_n .istore b_Tue_odds 53 8 55 := Or.inr ⟨by decide +kernel, rfl⟩
theorem d_Tue_odds_55 : zd_l .aload_n .aload b_Tue_odds 55 0 56 := Or.inl ⟨0, rfl, by decide +kernel, rfl⟩
theorem d_Tue_odds_56 : zd b_Tue_odds 56 (.getfield 30) 3 59 := ⟨by decide +kernel, rfl⟩
theorem d_Tue_odds_59 : zd_l .iload_n .iload b_Tue_odds 59 1 60 := Or.inl ⟨1, rfl, by decide +kernel, rfl⟩
theorem d_Tue_odds_60 : zd b_Tue_odds 60 (.invokevirtual 207) 3 63 := ⟨by decide +kernel, rfl⟩
theorem d_Tue_odds_63 : zd_l .istore_n .istore b_Tue_odds 63 9 65 := Or.inr ⟨by decide +kernel, rfl⟩
theorem d_Tue_odds_65 : zd_l .iload_n .iload b_Tue_odds 65 9 67 := Or.inr ⟨by decide +kernel, rfl⟩
theorem d_Tue_odds_67 : zd_l .iload_n .iload b_Tue_odds 67 8 69 := Or.inr ⟨by decide +kernel, rfl⟩
theorem d_Tue_odds_69 : zd b_Tue_odds 69 (.invokestatic 210) 3 72 := ⟨by decide +kernel, rfl⟩
theorem d_Tue_odds_72 : zd_l .istore_n .istore b_Tue_odds 72 10 74 := Or.inr ⟨by decide +kernel, rfl⟩
theorem d_Tue_odds_74 : zd_l .iload_n .iload b_Tue_odds 74 10 76 := Or.inr ⟨by decide +kernel, rfl⟩
theorem d_Tue_odds_76 : zd_k b_Tue_odds "SameTuesday" 76 1 77 := Or.inl ⟨1, by decide +kernel, by decide, rfl⟩
theorem d_Tue_odds_77 : zd_b b_Tue_odds 77 (.if_icmp .ge) 80 84 := ⟨7, by decide +kernel, by decide, rfl⟩
set_option maxRecDepth 20000 in
theorem d_Tue_odds_80 : zd_kl b_Tue_odds "SameTuesday" 80 (-9223372036854775808) 83 := Or.inr ⟨205, by decide +kernel, zb_mem 779 rfl rfl, rfl⟩
theorem d_Tue_odds_83 : zd b_Tue_odds 83 .lreturn 1 84 := ⟨by decide +kernel, rfl⟩
theorem d_Tue_odds_84 : zd_l .iload_n .iload b_Tue_odds 84 6 86 := Or.inr ⟨by decide +kernel, rfl⟩
theorem d_Tue_odds_86 : zd_b b_Tue_odds 86 (.ifCond .ne) 89 98 := ⟨12, by decide +kernel, by decide, rfl⟩
theorem d_Tue_odds_89 : zd_l .iload_n .iload b_Tue_odds 89 9 91 := Or.inr ⟨by decide +kernel, rfl⟩
theorem d_Tue_odds_91 : zd_l .iload_n .iload b_Tue_odds 91 10 93 := Or.inr ⟨by decide +kernel, rfl⟩
theorem d_Tue_odds_93 : zd b_Tue_odds 93 .idiv 1 94 := ⟨by decide +kernel, rfl⟩
theorem d_Tue_odds_94 : zd b_Tue_odds 94 .i2l 1 95 := ⟨by decide +kernel, rfl⟩
theorem d_Tue_odds_95 : zd_b b_Tue_odds 95 .goto 98 104 := ⟨9, by decide +kernel, by decide, rfl⟩
theorem d_Tue_odds_98 : zd_l .iload_n .iload b_Tue_odds 98 8 100 := Or.inr ⟨by decide +kernel, rfl⟩
theorem d_Tue_odds_100 : zd_l .iload_n .iload b_Tue_odds 100 10 102 := Or.inr ⟨by decide +kernel, rfl⟩
theorem d_Tue_odds_102 : zd b_Tue_odds 102 .idiv 1 103 := ⟨by decide +kernel, rfl⟩
theorem d_Tue_odds_103 : zd b_Tue_odds 103 .i2l 1 104 := ⟨by decide +kernel, rfl⟩
theorem d_Tue_odds_104 : zd b_Tue_odds 104 .lreturn 1 105 := ⟨by decide +kernel, rfl⟩
theorem d_Tue_sheet_0 : zd_l .aload_n .aload b_Tue_sheet 0 0 1 := Or.inl ⟨0, rfl, by decide +kernel, rfl⟩
theorem d_Tue_sheet_1 : zd_k b_Tue_sheet "SameTuesday" 1 0 2 := Or.inl ⟨0, by decide +kernel, by decide, rfl⟩
theorem d_Tue_sheet_2 : zd b_Tue_sheet 2 (.putfield 55) 3 5 := ⟨by decide +kernel, rfl⟩
theorem d_Tue_sheet_5 : zd_l .aload_n .aload b_Tue_sheet 5 0 6 := Or.inl ⟨0, rfl, by decide +kernel, rfl⟩
theorem d_Tue_sheet_6 : zd_l .iload_n .iload b_Tue_sheet 6 1 7 := Or.inl ⟨1, rfl, by decide +kernel, rfl⟩
theorem d_Tue_sheet_7 : zd b_Tue_sheet 7 (.invokevirtual 59) 3 10 := ⟨by decide +kernel, rfl⟩
theorem d_Tue_sheet_10 : zd_l .astore_n .astore b_Tue_sheet 10 4 12 := Or.inr ⟨by decide +kernel, rfl⟩
theorem d_Tue_sheet_12 : zd_l .aload_n .aload b_Tue_sheet 12 4 14 := Or.inr ⟨by decide +kernel, rfl⟩
theorem d_Tue_sheet_14 : zd_b b_Tue_sheet 14 .ifnonnull 17 19 := ⟨5, by decide +kernel, by decide, rfl⟩
theorem d_Tue_sheet_17 : zd_k b_Tue_sheet "SameTuesday" 17 (-1) 18 := Or.inl ⟨(-1), by decide +kernel, by decide, rfl⟩
theorem d_Tue_sheet_18 : zd b_Tue_sheet 18 .ireturn 1 19 := ⟨by decide +kernel, rfl⟩
theorem d_Tue_sheet_19 : zd_l .iload_n .iload b_Tue_sheet 19 2 20 := Or.inl ⟨2, rfl, by decide +kernel, rfl⟩
theorem d_Tue_sheet_20 : zd b_Tue_sheet 20 (.invokestatic 213) 3 23 := ⟨by decide +kernel, rfl⟩
theorem d_Tue_sheet_23 : zd_b b_Tue_sheet 23 (.ifCond .eq) 26 32 := ⟨9, by decide +kernel, by decide, rfl⟩
theorem d_Tue_sheet_26 : zd_l .iload_n .iload b_Tue_sheet 26 3 27 := Or.inl ⟨3, rfl, by decide +kernel, rfl⟩
theorem d_Tue_sheet_27 : zd_k b_Tue_sheet "SameTuesday" 27 60 29 := Or.inr (Or.inl ⟨60, by decide +kernel, by decide, rfl⟩)
theorem d_Tue_sheet_29 : zd_b b_Tue_sheet 29 (.if_icmp .le) 32 35 := ⟨6, by decide +kernel, by decide, rfl⟩
theorem d_Tue_sheet_32 : zd_k b_Tue_sheet "SameTuesday" 32 (-2) 34 := Or.inr (Or.inl ⟨(-2), by decide +kernel, by decide, rfl⟩)
theorem d_Tue_sheet_34 : zd b_Tue_sheet 34 .ireturn 1 35 := ⟨by decide +kernel, rfl⟩
theorem d_Tue_sheet_35 : zd_l .iload_n .iload b_Tue_sheet 35 3 36 := Or.inl ⟨3, rfl, by decide +kernel, rfl⟩
theorem d_Tue_sheet_36 : zd_b b_Tue_sheet 36 (.ifCond .ge) 39 45 := ⟨9, by decide +kernel, by decide, rfl⟩
theorem d_Tue_sheet_39 : zd_l .aload_n .aload b_Tue_sheet 39 0 40 := Or.inl ⟨0, rfl, by decide +kernel, rfl⟩
theorem d_Tue_sheet_40 : zd_k b_Tue_sheet "SameTuesday" 40 4 41 := Or.inl ⟨4, by decide +kernel, by decide, rfl⟩
theorem d_Tue_sheet_41 : zd b_Tue_sheet 41 (.invokevirtual 216) 3 44 := ⟨by decide +kernel, rfl⟩
theorem d_Tue_sheet_44 : zd b_Tue_sheet 44 .ireturn 1 45 := ⟨by decide +kernel, rfl⟩
theorem d_Tue_sheet_45 : zd_l .aload_n .aload b_Tue_sheet 45 4 47 := Or.inr ⟨by decide +kernel, rfl⟩
theorem d_Tue_sheet_47 : zd_l .iload_n .iload b_Tue_sheet 47 2 48 := Or.inl ⟨2, rfl, by decide +kernel, rfl⟩
theorem d_Tue_sheet_48 : zd_l .iload_n .iload b_Tue_sheet 48 3 49 := Or.inl ⟨3, rfl, by decide +kernel, rfl⟩
theorem d_Tue_sheet_49 : zd b_Tue_sheet 49 (.invokevirtual 219) 3 52 := ⟨by decide +kernel, rfl⟩
theorem d_Tue_sheet_52 : zd_k b_Tue_sheet "SameTuesday" 52 1 53 := Or.inl ⟨1, by decide +kernel, by decide, rfl⟩
theorem d_Tue_sheet_53 : zd b_Tue_sheet 53 .ireturn 1 54 := ⟨by decide +kernel, rfl⟩
theorem d_Tue_lose_0 : zd_l .aload_n .aload b_Tue_lose 0 0 1 := Or.inl ⟨0, rfl, by decide +kernel, rfl⟩
theorem d_Tue_lose_1 : zd_l .iload_n .iload b_Tue_lose 1 1 2 := Or.inl ⟨1, rfl, by decide +kernel, rfl⟩
theorem d_Tue_lose_2 : zd b_Tue_lose 2 (.invokevirtual 59) 3 5 := ⟨by decide +kernel, rfl⟩
theorem d_Tue_lose_5 : zd_l .astore_n .astore b_Tue_lose 5 2 6 := Or.inl ⟨2, rfl, by decide +kernel, rfl⟩
theorem d_Tue_lose_6 : zd_l .aload_n .aload b_Tue_lose 6 2 7 := Or.inl ⟨2, rfl, by decide +kernel, rfl⟩
theorem d_Tue_lose_7 : zd_b b_Tue_lose 7 .ifnonnull 10 12 := ⟨5, by decide +kernel, by decide, rfl⟩
theorem d_Tue_lose_10 : zd_k b_Tue_lose "SameTuesday" 10 (-1) 11 := Or.inl ⟨(-1), by decide +kernel, by decide, rfl⟩
theorem d_Tue_lose_11 : zd b_Tue_lose 11 .ireturn 1 12 := ⟨by decide +kernel, rfl⟩
theorem d_Tue_lose_12 : zd_l .aload_n .aload b_Tue_lose 12 2 13 := Or.inl ⟨2, rfl, by decide +kernel, rfl⟩
theorem d_Tue_lose_13 : zd b_Tue_lose 13 (.invokevirtual 223) 3 16 := ⟨by decide +kernel, rfl⟩
theorem d_Tue_lose_16 : zd_b b_Tue_lose 16 (.ifCond .ne) 19 23 := ⟨7, by decide +kernel, by decide, rfl⟩
theorem d_Tue_lose_19 : zd_k b_Tue_lose "SameTuesday" 19 1 20 := Or.inl ⟨1, by decide +kernel, by decide, rfl⟩
theorem d_Tue_lose_20 : zd_b b_Tue_lose 20 .goto 23 24 := ⟨4, by decide +kernel, by decide, rfl⟩
theorem d_Tue_lose_23 : zd_k b_Tue_lose "SameTuesday" 23 0 24 := Or.inl ⟨0, by decide +kernel, by decide, rfl⟩
theorem d_Tue_lose_24 : zd_l .istore_n .istore b_Tue_lose 24 3 25 := Or.inl ⟨3, rfl, by decide +kernel, rfl⟩
theorem d_Tue_lose_25 : zd_l .aload_n .aload b_Tue_lose 25 2 26 := Or.inl ⟨2, rfl, by decide +kernel, rfl⟩
theorem d_Tue_lose_26 : zd b_Tue_lose 26 (.invokevirtual 226) 3 29 := ⟨by decide +kernel, rfl⟩
theorem d_Tue_lose_29 : zd_l .iload_n .iload b_Tue_lose 29 3 30 := Or.inl ⟨3, rfl, by decide +kernel, rfl⟩
theorem d_Tue_lose_30 : zd_b b_Tue_lose 30 (.ifCond .eq) 33 37 := ⟨7, by decide +kernel, by decide, rfl⟩
theorem d_Tue_lose_33 : zd_k b_Tue_lose "SameTuesday" 33 1 34 := Or.inl ⟨1, by decide +kernel, by decide, rfl⟩
theorem d_Tue_lose_34 : zd_b b_Tue_lose 34 .goto 37 38 := ⟨4, by decide +kernel, by decide, rfl⟩
theorem d_Tue_lose_37 : zd_k b_Tue_lose "SameTuesday" 37 0 38 := Or.inl ⟨0, by decide +kernel, by decide, rfl⟩
theorem d_Tue_lose_38 : zd b_Tue_lose 38 .ireturn 1 39 := ⟨by decide +kernel, rfl⟩
theorem d_Tue_put_0 : zd_l .aload_n .aload b_Tue_put 0 0 1 := Or.inl ⟨0, rfl, by decide +kernel, rfl⟩
theorem d_Tue_put_1 : zd_k b_Tue_put "SameTuesday" 1 0 2 := Or.inl ⟨0, by decide +kernel, by decide, rfl⟩
theorem d_Tue_put_2 : zd b_Tue_put 2 (.putfield 55) 3 5 := ⟨by decide +kernel, rfl⟩
theorem d_Tue_put_5 : zd_l .aload_n .aload b_Tue_put 5 0 6 := Or.inl ⟨0, rfl, by decide +kernel, rfl⟩
theorem d_Tue_put_6 : zd_l .iload_n .iload b_Tue_put 6 1 7 := Or.inl ⟨1, rfl, by decide +kernel, rfl⟩
theorem d_Tue_put_7 : zd b_Tue_put 7 (.invokevirtual 59) 3 10 := ⟨by decide +kernel, rfl⟩
theorem d_Tue_put_10 : zd_l .astore_n .astore b_Tue_put 10 4 12 := Or.inr ⟨by decide +kernel, rfl⟩
theorem d_Tue_put_12 : zd_l .aload_n .aload b_Tue_put 12 4 14 := Or.inr ⟨by decide +kernel, rfl⟩
theorem d_Tue_put_14 : zd_b b_Tue_put 14 .ifnonnull 17 19 := ⟨5, by decide +kernel, by decide, rfl⟩
theorem d_Tue_put_17 : zd_k b_Tue_put "SameTuesday" 17 (-1) 18 := Or.inl ⟨(-1), by decide +kernel, by decide, rfl⟩
theorem d_Tue_put_18 : zd b_Tue_put 18 .ireturn 1 19 := ⟨by decide +kernel, rfl⟩
theorem d_Tue_put_19 : zd_l .aload_n .aload b_Tue_put 19 4 21 := Or.inr ⟨by decide +kernel, rfl⟩
theorem d_Tue_put_21 : zd b_Tue_put 21 (.invokevirtual 223) 3 24 := ⟨by decide +kernel, rfl⟩
theorem d_Tue_put_24 : zd_b b_Tue_put 24 (.ifCond .eq) 27 33 := ⟨9, by decide +kernel, by decide, rfl⟩
theorem d_Tue_put_27 : zd_l .aload_n .aload b_Tue_put 27 0 28 := Or.inl ⟨0, rfl, by decide +kernel, rfl⟩
theorem d_Tue_put_28 : zd_k b_Tue_put "SameTuesday" 28 1 29 := Or.inl ⟨1, by decide +kernel, by decide, rfl⟩
theorem d_Tue_put_29 : zd b_Tue_put 29 (.invokevirtual 216) 3 32 := ⟨by decide +kernel, rfl⟩
theorem d_Tue_put_32 : zd b_Tue_put 32 .ireturn 1 33 := ⟨by decide +kernel, rfl⟩
theorem d_Tue_put_33 : zd_l .aload_n .aload b_Tue_put 33 4 35 := Or.inr ⟨by decide +kernel, rfl⟩
theorem d_Tue_put_35 : zd_l .iload_n .iload b_Tue_put 35 2 36 := Or.inl ⟨2, rfl, by decide +kernel, rfl⟩
theorem d_Tue_put_36 : zd_k b_Tue_put "SameTuesday" 36 1 37 := Or.inl ⟨1, by decide +kernel, by decide, rfl⟩
theorem d_Tue_put_37 : zd b_Tue_put 37 (.invokevirtual 229) 3 40 := ⟨by decide +kernel, rfl⟩
theorem d_Tue_put_40 : zd_b b_Tue_put 40 (.ifCond .ne) 43 49 := ⟨9, by decide +kernel, by decide, rfl⟩
theorem d_Tue_put_43 : zd_l .aload_n .aload b_Tue_put 43 0 44 := Or.inl ⟨0, rfl, by decide +kernel, rfl⟩
theorem d_Tue_put_44 : zd_k b_Tue_put "SameTuesday" 44 3 45 := Or.inl ⟨3, by decide +kernel, by decide, rfl⟩
theorem d_Tue_put_45 : zd b_Tue_put 45 (.invokevirtual 216) 3 48 := ⟨by decide +kernel, rfl⟩
theorem d_Tue_put_48 : zd b_Tue_put 48 .ireturn 1 49 := ⟨by decide +kernel, rfl⟩
theorem d_Tue_put_49 : zd_l .aload_n .aload b_Tue_put 49 4 51 := Or.inr ⟨by decide +kernel, rfl⟩
theorem d_Tue_put_51 : zd_l .iload_n .iload b_Tue_put 51 2 52 := Or.inl ⟨2, rfl, by decide +kernel, rfl⟩
theorem d_Tue_put_52 : zd_l .iload_n .iload b_Tue_put 52 3 53 := Or.inl ⟨3, rfl, by decide +kernel, rfl⟩
theorem d_Tue_put_53 : zd b_Tue_put 53 (.invokevirtual 233) 3 56 := ⟨by decide +kernel, rfl⟩
theorem d_Tue_put_56 : zd_k b_Tue_put "SameTuesday" 56 1 57 := Or.inl ⟨1, by decide +kernel, by decide, rfl⟩
theorem d_Tue_put_57 : zd b_Tue_put 57 .ireturn 1 58 := ⟨by decide +kernel, rfl⟩
theorem d_Tue_cell_0 : zd_l .aload_n .aload b_Tue_cell 0 0 1 := Or.inl ⟨0, rfl, by decide +kernel, rfl⟩
theorem d_Tue_cell_1 : zd_k b_Tue_cell "SameTuesday" 1 0 2 := Or.inl ⟨0, by decide +kernel, by decide, rfl⟩
theorem d_Tue_cell_2 : zd b_Tue_cell 2 (.putfield 55) 3 5 := ⟨by decide +kernel, rfl⟩
theorem d_Tue_cell_5 : zd_l .aload_n .aload b_Tue_cell 5 0 6 := Or.inl ⟨0, rfl, by decide +kernel, rfl⟩
theorem d_Tue_cell_6 : zd_l .iload_n .iload b_Tue_cell 6 1 7 := Or.inl ⟨1, rfl, by decide +kernel, rfl⟩
theorem d_Tue_cell_7 : zd b_Tue_cell 7 (.invokevirtual 59) 3 10 := ⟨by decide +kernel, rfl⟩
theorem d_Tue_cell_10 : zd_l .astore_n .astore b_Tue_cell 10 4 12 := Or.inr ⟨by decide +kernel, rfl⟩
theorem d_Tue_cell_12 : zd_l .aload_n .aload b_Tue_cell 12 4 14 := Or.inr ⟨by decide +kernel, rfl⟩
theorem d_Tue_cell_14 : zd_b b_Tue_cell 14 .ifnull 17 29 := ⟨15, by decide +kernel, by decide, rfl⟩
theorem d_Tue_cell_17 : zd_l .aload_n .aload b_Tue_cell 17 0 18 := Or.inl ⟨0, rfl, by decide +kernel, rfl⟩
theorem d_Tue_cell_18 : zd_l .aload_n .aload b_Tue_cell 18 4 20 := Or.inr ⟨by decide +kernel, rfl⟩
theorem d_Tue_cell_20 : zd_l .iload_n .iload b_Tue_cell 20 3 21 := Or.inl ⟨3, rfl, by decide +kernel, rfl⟩
theorem d_Tue_cell_21 : zd_l .iload_n .iload b_Tue_cell 21 2 22 := Or.inl ⟨2, rfl, by decide +kernel, rfl⟩
theorem d_Tue_cell_22 : zd_k b_Tue_cell "SameTuesday" 22 1 23 := Or.inl ⟨1, by decide +kernel, by decide, rfl⟩
theorem d_Tue_cell_23 : zd b_Tue_cell 23 (.invokevirtual 63) 3 26 := ⟨by decide +kernel, rfl⟩
theorem d_Tue_cell_26 : zd_b b_Tue_cell 26 (.ifCond .eq) 29 33 := ⟨7, by decide +kernel, by decide, rfl⟩
set_option maxRecDepth 20000 in
theorem d_Tue_cell_29 : zd_kl b_Tue_cell "SameTuesday" 29 (-9223372036854775808) 32 := Or.inr ⟨205, by decide +kernel, zb_mem 779 rfl rfl, rfl⟩
theorem d_Tue_cell_32 : zd b_Tue_cell 32 .lreturn 1 33 := ⟨by decide +kernel, rfl⟩
theorem d_Tue_cell_33 : zd_l .aload_n .aload b_Tue_cell 33 4 35 := Or.inr ⟨by decide +kernel, rfl⟩
theorem d_Tue_cell_35 : zd_l .iload_n .iload b_Tue_cell 35 2 36 := Or.inl ⟨2, rfl, by decide +kernel, rfl⟩
theorem d_Tue_cell_36 : zd b_Tue_cell 36 (.invokevirtual 236) 3 39 := ⟨by decide +kernel, rfl⟩
theorem d_Tue_cell_39 : zd b_Tue_cell 39 .i2l 1 40 := ⟨by decide +kernel, rfl⟩
theorem d_Tue_cell_40 : zd b_Tue_cell 40 .lreturn 1 41 := ⟨by decide +kernel, rfl⟩
theorem d_Tue_copy_0 : zd_l .aload_n .aload b_Tue_copy 0 0 1 := Or.inl ⟨0, rfl, by decide +kernel, rfl⟩
theorem d_Tue_copy_1 : zd_k b_Tue_copy "SameTuesday" 1 0 2 := Or.inl ⟨0, by decide +kernel, by decide, rfl⟩
theorem d_Tue_copy_2 : zd b_Tue_copy 2 (.putfield 55) 3 5 := ⟨by decide +kernel, rfl⟩
theorem d_Tue_copy_5 : zd_l .aload_n .aload b_Tue_copy 5 0 6 := Or.inl ⟨0, rfl, by decide +kernel, rfl⟩
theorem d_Tue_copy_6 : zd_l .iload_n .iload b_Tue_copy 6 1 7 := Or.inl ⟨1, rfl, by decide +kernel, rfl⟩
theorem d_Tue_copy_7 : zd b_Tue_copy 7 (.invokevirtual 59) 3 10 := ⟨by decide +kernel, rfl⟩
theorem d_Tue_copy_10 : zd_l .astore_n .astore b_Tue_copy 10 6 12 := Or.inr ⟨by decide +kernel, rfl⟩
theorem d_Tue_copy_12 : zd_l .aload_n .aload b_Tue_copy 12 0 13 := Or.inl ⟨0, rfl, by decide +kernel, rfl⟩
theorem d_Tue_copy_13 : zd_l .iload_n .iload b_Tue_copy 13 3 14 := Or.inl ⟨3, rfl, by decide +kernel, rfl⟩
theorem d_Tue_copy_14 : zd b_Tue_copy 14 (.invokevirtual 59) 3 17 := ⟨by decide +kernel, rfl⟩
theorem d_Tue_copy_17 : zd_l .astore_n .astore b_Tue_copy 17 7 19 := Or.inr ⟨by decide +kernel, rfl⟩
theorem d_Tue_copy_19 : zd_l .aload_n .aload b_Tue_copy 19 6 21 := Or.inr ⟨by decide +kernel, rfl⟩
theorem d_Tue_copy_21 : zd_b b_Tue_copy 21 .ifnull 24 29 := ⟨8, by decide +kernel, by decide, rfl⟩
theorem d_Tue_copy_24 : zd_l .aload_n .aload b_Tue_copy 24 7 26 := Or.inr ⟨by decide +kernel, rfl⟩
theorem d_Tue_copy_26 : zd_b b_Tue_copy 26 .ifnonnull 29 31 := ⟨5, by decide +kernel, by decide, rfl⟩
theorem d_Tue_copy_29 : zd_k b_Tue_copy "SameTuesday" 29 (-1) 30 := Or.inl ⟨(-1), by decide +kernel, by decide, rfl⟩
theorem d_Tue_copy_30 : zd b_Tue_copy 30 .ireturn 1 31 := ⟨by decide +kernel, rfl⟩
theorem d_Tue_copy_31 : zd_l .aload_n .aload b_Tue_copy 31 6 33 := Or.inr ⟨by decide +kernel, rfl⟩
theorem d_Tue_copy_33 : zd b_Tue_copy 33 (.invokevirtual 223) 3 36 := ⟨by decide +kernel, rfl⟩
theorem d_Tue_copy_36 : zd_b b_Tue_copy 36 (.ifCond .ne) 39 47 := ⟨11, by decide +kernel, by decide, rfl⟩
theorem d_Tue_copy_39 : zd_l .aload_n .aload b_Tue_copy 39 7 41 := Or.inr ⟨by decide +kernel, rfl⟩
theorem d_Tue_copy_41 : zd b_Tue_copy 41 (.invokevirtual 223) 3 44 := ⟨by decide +kernel, rfl⟩
theorem d_Tue_copy_44 : zd_b b_Tue_copy 44 (.ifCond .eq) 47 53 := ⟨9, by decide +kernel, by decide, rfl⟩
theorem d_Tue_copy_47 : zd_l .aload_n .aload b_Tue_copy 47 0 48 := Or.inl ⟨0, rfl, by decide +kernel, rfl⟩
theorem d_Tue_copy_48 : zd_k b_Tue_copy "SameTuesday" 48 1 49 := Or.inl ⟨1, by decide +kernel, by decide, rfl⟩
theorem d_Tue_copy_49 : zd b_Tue_copy 49 (.invokevirtual 216) 3 52 := ⟨by decide +kernel, rfl⟩
theorem d_Tue_copy_52 : zd b_Tue_copy 52 .ireturn 1 53 := ⟨by decide +kernel, rfl⟩
theorem d_Tue_copy_53 : zd_l .aload_n .aload b_Tue_copy 53 6 55 := Or.inr ⟨by decide +kernel, rfl⟩
theorem d_Tue_copy_55 : zd_l .aload_n .aload b_Tue_copy 55 7 57 := Or.inr ⟨by decide +kernel, rfl⟩
theorem d_Tue_copy_57 : zd b_Tue_copy 57 (.invokevirtual 239) 3 60 := ⟨by decide +kernel, rfl⟩
theorem d_Tue_copy_60 : zd_b b_Tue_copy 60 (.ifCond .ne) 63 69 := ⟨9, by decide +kernel, by decide, rfl⟩
theorem d_Tue_copy_63 : zd_l .aload_n .aload b_Tue_copy 63 0 64 := Or.inl ⟨0, rfl, by decide +kernel, rfl⟩
theorem d_Tue_copy_64 : zd_k b_Tue_copy "SameTuesday" 64 2 65 := Or.inl ⟨2, by decide +kernel, by decide, rfl⟩
theorem d_Tue_copy_65 : zd b_Tue_copy 65 (.invokevirtual 216) 3 68 := ⟨by decide +kernel, rfl⟩
theorem d_Tue_copy_68 : zd b_Tue_copy 68 .ireturn 1 69 := ⟨by decide +kernel, rfl⟩
theorem d_Tue_copy_69 : zd_l .aload_n .aload b_Tue_copy 69 6 71 := Or.inr ⟨by decide +kernel, rfl⟩
theorem d_Tue_copy_71 : zd_l .iload_n .iload b_Tue_copy 71 2 72 := Or.inl ⟨2, rfl, by decide +kernel, rfl⟩
theorem d_Tue_copy_72 : zd_l .iload_n .iload b_Tue_copy 72 5 74 := Or.inr ⟨by decide +kernel, rfl⟩
theorem d_Tue_copy_74 : zd b_Tue_copy 74 (.invokevirtual 229) 3 77 := ⟨by decide +kernel, rfl⟩
theorem d_Tue_copy_77 : zd_b b_Tue_copy 77 (.ifCond .eq) 80 92 := ⟨15, by decide +kernel, by decide, rfl⟩
theorem d_Tue_copy_80 : zd_l .aload_n .aload b_Tue_copy 80 7 82 := Or.inr ⟨by decide +kernel, rfl⟩
theorem d_Tue_copy_82 : zd_l .iload_n .iload b_Tue_copy 82 4 84 := Or.inr ⟨by decide +kernel, rfl⟩
theorem d_Tue_copy_84 : zd_l .iload_n .iload b_Tue_copy 84 5 86 := Or.inr ⟨by decide +kernel, rfl⟩
theorem d_Tue_copy_86 : zd b_Tue_copy 86 (.invokevirtual 229) 3 89 := ⟨by decide +kernel, rfl⟩
theorem d_Tue_copy_89 : zd_b b_Tue_copy 89 (.ifCond .ne) 92 98 := ⟨9, by decide +kernel, by decide, rfl⟩
theorem d_Tue_copy_92 : zd_l .aload_n .aload b_Tue_copy 92 0 93 := Or.inl ⟨0, rfl, by decide +kernel, rfl⟩
theorem d_Tue_copy_93 : zd_k b_Tue_copy "SameTuesday" 93 3 94 := Or.inl ⟨3, by decide +kernel, by decide, rfl⟩
theorem d_Tue_copy_94 : zd b_Tue_copy 94 (.invokevirtual 216) 3 97 := ⟨by decide +kernel, rfl⟩
theorem d_Tue_copy_97 : zd b_Tue_copy 97 .ireturn 1 98 := ⟨by decide +kernel, rfl⟩
theorem d_Tue_copy_98 : zd_l .aload_n .aload b_Tue_copy 98 7 100 := Or.inr ⟨by decide +kernel, rfl⟩
theorem d_Tue_copy_100 : zd_l .aload_n .aload b_Tue_copy 100 6 102 := Or.inr ⟨by decide +kernel, rfl⟩
theorem d_Tue_copy_102 : zd_l .iload_n .iload b_Tue_copy 102 2 103 := Or.inl ⟨2, rfl, by decide +kernel, rfl⟩
theorem d_Tue_copy_103 : zd_l .iload_n .iload b_Tue_copy 103 4 105 := Or.inr ⟨by decide +kernel, rfl⟩
theorem d_Tue_copy_105 : zd_l .iload_n .iload b_Tue_copy 105 5 107 := Or.inr ⟨by decide +kernel, rfl⟩
theorem d_Tue_copy_107 : zd b_Tue_copy 107 (.invokevirtual 243) 3 110 := ⟨by decide +kernel, rfl⟩
theorem d_Tue_copy_110 : zd_l .iload_n .iload b_Tue_copy 110 5 112 := Or.inr ⟨by decide +kernel, rfl⟩
theorem d_Tue_copy_112 : zd b_Tue_copy 112 .ireturn 1 113 := ⟨by decide +kernel, rfl⟩
theorem d_Tue_tell_0 : zd_l .aload_n .aload b_Tue_tell 0 0 1 := Or.inl ⟨0, rfl, by decide +kernel, rfl⟩
theorem d_Tue_tell_1 : zd b_Tue_tell 1 (.getfield 21) 3 4 := ⟨by decide +kernel, rfl⟩
theorem d_Tue_tell_4 : zd_l .iload_n .iload b_Tue_tell 4 1 5 := Or.inl ⟨1, rfl, by decide +kernel, rfl⟩
theorem d_Tue_tell_5 : zd b_Tue_tell 5 (.invokevirtual 93) 3 8 := ⟨by decide +kernel, rfl⟩
theorem d_Tue_tell_8 : zd_l .astore_n .astore b_Tue_tell 8 2 9 := Or.inl ⟨2, rfl, by decide +kernel, rfl⟩
theorem d_Tue_tell_9 : zd_l .aload_n .aload b_Tue_tell 9 2 10 := Or.inl ⟨2, rfl, by decide +kernel, rfl⟩
theorem d_Tue_tell_10 : zd_b b_Tue_tell 10 .ifnonnull 13 17 := ⟨7, by decide +kernel, by decide, rfl⟩
theorem d_Tue_tell_13 : zd_k b_Tue_tell "SameTuesday" 13 (-1) 14 := Or.inl ⟨(-1), by decide +kernel, by decide, rfl⟩
theorem d_Tue_tell_14 : zd_b b_Tue_tell 14 .goto 17 25 := ⟨11, by decide +kernel, by decide, rfl⟩
theorem d_Tue_tell_17 : zd_l .aload_n .aload b_Tue_tell 17 2 18 := Or.inl ⟨2, rfl, by decide +kernel, rfl⟩
theorem d_Tue_tell_18 : zd_l .aload_n .aload b_Tue_tell 18 0 19 := Or.inl ⟨0, rfl, by decide +kernel, rfl⟩
theorem d_Tue_tell_19 : zd b_Tue_tell 19 (.getfield 51) 3 22 := ⟨by decide +kernel, rfl⟩
theorem d_Tue_tell_22 : zd b_Tue_tell 22 (.invokevirtual 247) 3 25 := ⟨by decide +kernel, rfl⟩
theorem d_Tue_tell_25 : zd b_Tue_tell 25 .ireturn 1 26 := ⟨by decide +kernel, rfl⟩
theorem d_Tue_rhyme_0 : zd_l .aload_n .aload b_Tue_rhyme 0 0 1 := Or.inl ⟨0, rfl, by decide +kernel, rfl⟩
theorem d_Tue_rhyme_1 : zd b_Tue_rhyme 1 (.getfield 21) 3 4 := ⟨by decide +kernel, rfl⟩
theorem d_Tue_rhyme_4 : zd_l .iload_n .iload b_Tue_rhyme 4 1 5 := Or.inl ⟨1, rfl, by decide +kernel, rfl⟩
theorem d_Tue_rhyme_5 : zd b_Tue_rhyme 5 (.invokevirtual 93) 3 8 := ⟨by decide +kernel, rfl⟩
theorem d_Tue_rhyme_8 : zd_l .astore_n .astore b_Tue_rhyme 8 2 9 := Or.inl ⟨2, rfl, by decide +kernel, rfl⟩
theorem d_Tue_rhyme_9 : zd_l .aload_n .aload b_Tue_rhyme 9 2 10 := Or.inl ⟨2, rfl, by decide +kernel, rfl⟩
theorem d_Tue_rhyme_10 : zd_b b_Tue_rhyme 10 .ifnonnull 13 17 := ⟨7, by decide +kernel, by decide, rfl⟩
theorem d_Tue_rhyme_13 : zd_k b_Tue_rhyme "SameTuesday" 13 (-1) 14 := Or.inl ⟨(-1), by decide +kernel, by decide, rfl⟩
theorem d_Tue_rhyme_14 : zd_b b_Tue_rhyme 14 .goto 17 25 := ⟨11, by decide +kernel, by decide, rfl⟩
theorem d_Tue_rhyme_17 : zd_l .aload_n .aload b_Tue_rhyme 17 2 18 := Or.inl ⟨2, rfl, by decide +kernel, rfl⟩
theorem d_Tue_rhyme_18 : zd_l .aload_n .aload b_Tue_rhyme 18 0 19 := Or.inl ⟨0, rfl, by decide +kernel, rfl⟩
theorem d_Tue_rhyme_19 : zd b_Tue_rhyme 19 (.getfield 51) 3 22 := ⟨by decide +kernel, rfl⟩
theorem d_Tue_rhyme_22 : zd b_Tue_rhyme 22 (.invokevirtual 251) 3 25 := ⟨by decide +kernel, rfl⟩
theorem d_Tue_rhyme_25 : zd b_Tue_rhyme 25 .ireturn 1 26 := ⟨by decide +kernel, rfl⟩
theorem d_Tue_as_0 : zd_l .aload_n .aload b_Tue_as 0 0 1 := Or.inl ⟨0, rfl, by decide +kernel, rfl⟩
theorem d_Tue_as_1 : zd_k b_Tue_as "SameTuesday" 1 0 2 := Or.inl ⟨0, by decide +kernel, by decide, rfl⟩
theorem d_Tue_as_2 : zd b_Tue_as 2 (.putfield 55) 3 5 := ⟨by decide +kernel, rfl⟩
theorem d_Tue_as_5 : zd_l .aload_n .aload b_Tue_as 5 0 6 := Or.inl ⟨0, rfl, by decide +kernel, rfl⟩
theorem d_Tue_as_6 : zd b_Tue_as 6 (.getfield 21) 3 9 := ⟨by decide +kernel, rfl⟩
theorem d_Tue_as_9 : zd_l .iload_n .iload b_Tue_as 9 1 10 := Or.inl ⟨1, rfl, by decide +kernel, rfl⟩
theorem d_Tue_as_10 : zd b_Tue_as 10 (.invokevirtual 93) 3 13 := ⟨by decide +kernel, rfl⟩
theorem d_Tue_as_13 : zd_l .astore_n .astore b_Tue_as 13 3 14 := Or.inl ⟨3, rfl, by decide +kernel, rfl⟩
theorem d_Tue_as_14 : zd_l .aload_n .aload b_Tue_as 14 3 15 := Or.inl ⟨3, rfl, by decide +kernel, rfl⟩
theorem d_Tue_as_15 : zd_b b_Tue_as 15 .ifnonnull 18 20 := ⟨5, by decide +kernel, by decide, rfl⟩
theorem d_Tue_as_18 : zd_k b_Tue_as "SameTuesday" 18 (-1) 19 := Or.inl ⟨(-1), by decide +kernel, by decide, rfl⟩
theorem d_Tue_as_19 : zd b_Tue_as 19 .ireturn 1 20 := ⟨by decide +kernel, rfl⟩
theorem d_Tue_as_20 : zd_l .iload_n .iload b_Tue_as 20 2 21 := Or.inl ⟨2, rfl, by decide +kernel, rfl⟩
theorem d_Tue_as_21 : zd_b b_Tue_as 21 (.ifCond .lt) 24 29 := ⟨8, by decide +kernel, by decide, rfl⟩
theorem d_Tue_as_24 : zd_l .iload_n .iload b_Tue_as 24 2 25 := Or.inl ⟨2, rfl, by decide +kernel, rfl⟩
theorem d_Tue_as_25 : zd_k b_Tue_as "SameTuesday" 25 2 26 := Or.inl ⟨2, by decide +kernel, by decide, rfl⟩
theorem d_Tue_as_26 : zd_b b_Tue_as 26 (.if_icmp .le) 29 32 := ⟨6, by decide +kernel, by decide, rfl⟩
theorem d_Tue_as_29 : zd_k b_Tue_as "SameTuesday" 29 (-2) 31 := Or.inr (Or.inl ⟨(-2), by decide +kernel, by decide, rfl⟩)
theorem d_Tue_as_31 : zd b_Tue_as 31 .ireturn 1 32 := ⟨by decide +kernel, rfl⟩
theorem d_Tue_as_32 : zd_l .iload_n .iload b_Tue_as 32 2 33 := Or.inl ⟨2, rfl, by decide +kernel, rfl⟩
theorem d_Tue_as_33 : zd_l .aload_n .aload b_Tue_as 33 3 34 := Or.inl ⟨3, rfl, by decide +kernel, rfl⟩
theorem d_Tue_as_34 : zd b_Tue_as 34 (.invokevirtual 97) 3 37 := ⟨by decide +kernel, rfl⟩
theorem d_Tue_as_37 : zd_b b_Tue_as 37 (.if_icmp .gt) 40 44 := ⟨7, by decide +kernel, by decide, rfl⟩
theorem d_Tue_as_40 : zd_k b_Tue_as "SameTuesday" 40 1 41 := Or.inl ⟨1, by decide +kernel, by decide, rfl⟩
theorem d_Tue_as_41 : zd_b b_Tue_as 41 .goto 44 49 := ⟨8, by decide +kernel, by decide, rfl⟩
theorem d_Tue_as_44 : zd_l .aload_n .aload b_Tue_as 44 0 45 := Or.inl ⟨0, rfl, by decide +kernel, rfl⟩
theorem d_Tue_as_45 : zd_k b_Tue_as "SameTuesday" 45 2 46 := Or.inl ⟨2, by decide +kernel, by decide, rfl⟩
theorem d_Tue_as_46 : zd b_Tue_as 46 (.invokevirtual 216) 3 49 := ⟨by decide +kernel, rfl⟩
theorem d_Tue_as_49 : zd b_Tue_as 49 .ireturn 1 50 := ⟨by decide +kernel, rfl⟩
theorem d_Tue_trace_0 : zd_l .aload_n .aload b_Tue_trace 0 0 1 := Or.inl ⟨0, rfl, by decide +kernel, rfl⟩
theorem d_Tue_trace_1 : zd b_Tue_trace 1 (.getfield 51) 3 4 := ⟨by decide +kernel, rfl⟩
theorem d_Tue_trace_4 : zd b_Tue_trace 4 (.invokevirtual 254) 3 7 := ⟨by decide +kernel, rfl⟩
theorem d_Tue_trace_7 : zd b_Tue_trace 7 .ireturn 1 8 := ⟨by decide +kernel, rfl⟩
theorem d_Tue_fault_0 : zd_l .aload_n .aload b_Tue_fault 0 0 1 := Or.inl ⟨0, rfl, by decide +kernel, rfl⟩
theorem d_Tue_fault_1 : zd b_Tue_fault 1 (.getfield 55) 3 4 := ⟨by decide +kernel, rfl⟩
theorem d_Tue_fault_4 : zd b_Tue_fault 4 .ireturn 1 5 := ⟨by decide +kernel, rfl⟩
theorem d_Tue_many_0 : zd_l .iload_n .iload b_Tue_many 0 1 1 := Or.inl ⟨1, rfl, by decide +kernel, rfl⟩
theorem d_Tue_many_1 : decode b_Tue_many 1 = .ok (.tableswitch 63 0 3 #[31, 39, 47, 55], 31) := by decide +kernel
theorem d_Tue_many_32 : zd_l .aload_n .aload b_Tue_many 32 0 33 := Or.inl ⟨0, rfl, by decide +kernel, rfl⟩
theorem d_Tue_many_33 : zd b_Tue_many 33 (.getfield 21) 3 36 := ⟨by decide +kernel, rfl⟩
theorem d_Tue_many_36 : zd b_Tue_many 36 (.invokevirtual 90) 3 39 := ⟨by decide +kernel, rfl⟩
theorem d_Tue_many_39 : zd b_Tue_many 39 .ireturn 1 40 := ⟨by decide +kernel, rfl⟩
theorem d_Tue_many_40 : zd_l .aload_n .aload b_Tue_many 40 0 41 := Or.inl ⟨0, rfl, by decide +kernel, rfl⟩
theorem d_Tue_many_41 : zd b_Tue_many 41 (.getfield 21) 3 44 := ⟨by decide +kernel, rfl⟩
theorem d_Tue_many_44 : zd b_Tue_many 44 (.invokevirtual 257) 3 47 := ⟨by decide +kernel, rfl⟩
theorem d_Tue_many_47 : zd b_Tue_many 47 .ireturn 1 48 := ⟨by decide +kernel, rfl⟩
theorem d_Tue_many_48 : zd_l .aload_n .aload b_Tue_many 48 0 49 := Or.inl ⟨0, rfl, by decide +kernel, rfl⟩
theorem d_Tue_many_49 : zd b_Tue_many 49 (.getfield 21) 3 52 := ⟨by decide +kernel, rfl⟩
theorem d_Tue_many_52 : zd b_Tue_many 52 (.invokevirtual 129) 3 55 := ⟨by decide +kernel, rfl⟩
theorem d_Tue_many_55 : zd b_Tue_many 55 .ireturn 1 56 := ⟨by decide +kernel, rfl⟩
theorem d_Tue_many_56 : zd_l .aload_n .aload b_Tue_many 56 0 57 := Or.inl ⟨0, rfl, by decide +kernel, rfl⟩
theorem d_Tue_many_57 : zd b_Tue_many 57 (.getfield 44) 3 60 := ⟨by decide +kernel, rfl⟩
theorem d_Tue_many_60 : zd b_Tue_many 60 (.invokevirtual 80) 3 63 := ⟨by decide +kernel, rfl⟩
theorem d_Tue_many_63 : zd b_Tue_many 63 .ireturn 1 64 := ⟨by decide +kernel, rfl⟩
theorem d_Tue_many_64 : zd_k b_Tue_many "SameTuesday" 64 (-2) 66 := Or.inr (Or.inl ⟨(-2), by decide +kernel, by decide, rfl⟩)
theorem d_Tue_many_66 : zd b_Tue_many 66 .ireturn 1 67 := ⟨by decide +kernel, rfl⟩
theorem d_Tue_faulty_0 : zd_l .aload_n .aload b_Tue_faulty 0 0 1 := Or.inl ⟨0, rfl, by decide +kernel, rfl⟩
theorem d_Tue_faulty_1 : zd_l .iload_n .iload b_Tue_faulty 1 1 2 := Or.inl ⟨1, rfl, by decide +kernel, rfl⟩
theorem d_Tue_faulty_2 : zd b_Tue_faulty 2 (.putfield 55) 3 5 := ⟨by decide +kernel, rfl⟩
theorem d_Tue_faulty_5 : zd_k b_Tue_faulty "SameTuesday" 5 (-10) 7 := Or.inr (Or.inl ⟨(-10), by decide +kernel, by decide, rfl⟩)
theorem d_Tue_faulty_7 : zd_l .iload_n .iload b_Tue_faulty 7 1 8 := Or.inl ⟨1, rfl, by decide +kernel, rfl⟩
theorem d_Tue_faulty_8 : zd b_Tue_faulty 8 .isub 1 9 := ⟨by decide +kernel, rfl⟩
theorem d_Tue_faulty_9 : zd b_Tue_faulty 9 .ireturn 1 10 := ⟨by decide +kernel, rfl⟩
theorem d_Tue_sheetOf_0 : zd_l .iload_n .iload b_Tue_sheetOf 0 1 1 := Or.inl ⟨1, rfl, by decide +kernel, rfl⟩
theorem d_Tue_sheetOf_1 : zd_b b_Tue_sheetOf 1 (.ifCond .lt) 4 22 := ⟨21, by decide +kernel, by decide, rfl⟩
theorem d_Tue_sheetOf_4 : zd_l .iload_n .iload b_Tue_sheetOf 4 1 5 := Or.inl ⟨1, rfl, by decide +kernel, rfl⟩
theorem d_Tue_sheetOf_5 : zd_l .aload_n .aload b_Tue_sheetOf 5 0 6 := Or.inl ⟨0, rfl, by decide +kernel, rfl⟩
theorem d_Tue_sheetOf_6 : zd b_Tue_sheetOf 6 (.getfield 13) 3 9 := ⟨by decide +kernel, rfl⟩
theorem d_Tue_sheetOf_9 : zd b_Tue_sheetOf 9 .arraylength 1 10 := ⟨by decide +kernel, rfl⟩
theorem d_Tue_sheetOf_10 : zd_b b_Tue_sheetOf 10 (.if_icmp .ge) 13 22 := ⟨12, by decide +kernel, by decide, rfl⟩
theorem d_Tue_sheetOf_13 : zd_l .aload_n .aload b_Tue_sheetOf 13 0 14 := Or.inl ⟨0, rfl, by decide +kernel, rfl⟩
theorem d_Tue_sheetOf_14 : zd b_Tue_sheetOf 14 (.getfield 13) 3 17 := ⟨by decide +kernel, rfl⟩
theorem d_Tue_sheetOf_17 : zd_l .iload_n .iload b_Tue_sheetOf 17 1 18 := Or.inl ⟨1, rfl, by decide +kernel, rfl⟩
theorem d_Tue_sheetOf_18 : zd b_Tue_sheetOf 18 .aaload 1 19 := ⟨by decide +kernel, rfl⟩
theorem d_Tue_sheetOf_19 : zd_b b_Tue_sheetOf 19 .goto 22 23 := ⟨4, by decide +kernel, by decide, rfl⟩
theorem d_Tue_sheetOf_22 : zd b_Tue_sheetOf 22 .aconst_null 1 23 := ⟨by decide +kernel, rfl⟩
theorem d_Tue_sheetOf_23 : zd b_Tue_sheetOf 23 .areturn 1 24 := ⟨by decide +kernel, rfl⟩
theorem d_Tue_refusalOfCells_0 : zd_l .iload_n .iload b_Tue_refusalOfCells 0 2 1 := Or.inl ⟨2, rfl, by decide +kernel, rfl⟩
theorem d_Tue_refusalOfCells_1 : zd b_Tue_refusalOfCells 1 (.invokestatic 213) 3 4 := ⟨by decide +kernel, rfl⟩
theorem d_Tue_refusalOfCells_4 : zd_b b_Tue_refusalOfCells 4 (.ifCond .ne) 7 10 := ⟨6, by decide +kernel, by decide, rfl⟩
theorem d_Tue_refusalOfCells_7 : zd_k b_Tue_refusalOfCells "SameTuesday" 7 (-2) 9 := Or.inr (Or.inl ⟨(-2), by decide +kernel, by decide, rfl⟩)
theorem d_Tue_refusalOfCells_9 : zd b_Tue_refusalOfCells 9 .ireturn 1 10 := ⟨by decide +kernel, rfl⟩
theorem d_Tue_refusalOfCells_10 : zd_l .aload_n .aload b_Tue_refusalOfCells 10 1 11 := Or.inl ⟨1, rfl, by decide +kernel, rfl⟩
theorem d_Tue_refusalOfCells_11 : zd b_Tue_refusalOfCells 11 (.invokevirtual 223) 3 14 := ⟨by decide +kernel, rfl⟩
theorem d_Tue_refusalOfCells_14 : zd_b b_Tue_refusalOfCells 14 (.ifCond .eq) 17 23 := ⟨9, by decide +kernel, by decide, rfl⟩
theorem d_Tue_refusalOfCells_17 : zd_l .aload_n .aload b_Tue_refusalOfCells 17 0 18 := Or.inl ⟨0, rfl, by decide +kernel, rfl⟩
theorem d_Tue_refusalOfCells_18 : zd_k b_Tue_refusalOfCells "SameTuesday" 18 1 19 := Or.inl ⟨1, by decide +kernel, by decide, rfl⟩
theorem d_Tue_refusalOfCells_19 : zd b_Tue_refusalOfCells 19 (.invokevirtual 216) 3 22 := ⟨by decide +kernel, rfl⟩
theorem d_Tue_refusalOfCells_22 : zd b_Tue_refusalOfCells 22 .ireturn 1 23 := ⟨by decide +kernel, rfl⟩
theorem d_Tue_refusalOfCells_23 : zd_l .aload_n .aload b_Tue_refusalOfCells 23 1 24 := Or.inl ⟨1, rfl, by decide +kernel, rfl⟩
theorem d_Tue_refusalOfCells_24 : zd_l .iload_n .iload b_Tue_refusalOfCells 24 2 25 := Or.inl ⟨2, rfl, by decide +kernel, rfl⟩
theorem d_Tue_refusalOfCells_25 : zd b_Tue_refusalOfCells 25 (.invokevirtual 260) 3 28 := ⟨by decide +kernel, rfl⟩
theorem d_Tue_refusalOfCells_28 : zd_b b_Tue_refusalOfCells 28 (.ifCond .ne) 31 37 := ⟨9, by decide +kernel, by decide, rfl⟩
theorem d_Tue_refusalOfCells_31 : zd_l .aload_n .aload b_Tue_refusalOfCells 31 0 32 := Or.inl ⟨0, rfl, by decide +kernel, rfl⟩
theorem d_Tue_refusalOfCells_32 : zd_k b_Tue_refusalOfCells "SameTuesday" 32 2 33 := Or.inl ⟨2, by decide +kernel, by decide, rfl⟩
theorem d_Tue_refusalOfCells_33 : zd b_Tue_refusalOfCells 33 (.invokevirtual 216) 3 36 := ⟨by decide +kernel, rfl⟩
theorem d_Tue_refusalOfCells_36 : zd b_Tue_refusalOfCells 36 .ireturn 1 37 := ⟨by decide +kernel, rfl⟩
theorem d_Tue_refusalOfCells_37 : zd_l .iload_n .iload b_Tue_refusalOfCells 37 4 39 := Or.inr ⟨by decide +kernel, rfl⟩
theorem d_Tue_refusalOfCells_39 : zd_b b_Tue_refusalOfCells 39 (.ifCond .ge) 42 48 := ⟨9, by decide +kernel, by decide, rfl⟩
theorem d_Tue_refusalOfCells_42 : zd_l .aload_n .aload b_Tue_refusalOfCells 42 0 43 := Or.inl ⟨0, rfl, by decide +kernel, rfl⟩
theorem d_Tue_refusalOfCells_43 : zd_k b_Tue_refusalOfCells "SameTuesday" 43 4 44 := Or.inl ⟨4, by decide +kernel, by decide, rfl⟩
theorem d_Tue_refusalOfCells_44 : zd b_Tue_refusalOfCells 44 (.invokevirtual 216) 3 47 := ⟨by decide +kernel, rfl⟩
theorem d_Tue_refusalOfCells_47 : zd b_Tue_refusalOfCells 47 .ireturn 1 48 := ⟨by decide +kernel, rfl⟩
theorem d_Tue_refusalOfCells_48 : zd_l .aload_n .aload b_Tue_refusalOfCells 48 1 49 := Or.inl ⟨1, rfl, by decide +kernel, rfl⟩
theorem d_Tue_refusalOfCells_49 : zd_l .iload_n .iload b_Tue_refusalOfCells 49 3 50 := Or.inl ⟨3, rfl, by decide +kernel, rfl⟩
theorem d_Tue_refusalOfCells_50 : zd_l .iload_n .iload b_Tue_refusalOfCells 50 4 52 := Or.inr ⟨by decide +kernel, rfl⟩
theorem d_Tue_refusalOfCells_52 : zd b_Tue_refusalOfCells 52 (.invokevirtual 229) 3 55 := ⟨by decide +kernel, rfl⟩
theorem d_Tue_refusalOfCells_55 : zd_b b_Tue_refusalOfCells 55 (.ifCond .eq) 58 62 := ⟨7, by decide +kernel, by decide, rfl⟩
theorem d_Tue_refusalOfCells_58 : zd_k b_Tue_refusalOfCells "SameTuesday" 58 0 59 := Or.inl ⟨0, by decide +kernel, by decide, rfl⟩
theorem d_Tue_refusalOfCells_59 : zd_b b_Tue_refusalOfCells 59 .goto 62 67 := ⟨8, by decide +kernel, by decide, rfl⟩
theorem d_Tue_refusalOfCells_62 : zd_l .aload_n .aload b_Tue_refusalOfCells 62 0 63 := Or.inl ⟨0, rfl, by decide +kernel, rfl⟩
theorem d_Tue_refusalOfCells_63 : zd_k b_Tue_refusalOfCells "SameTuesday" 63 3 64 := Or.inl ⟨3, by decide +kernel, by decide, rfl⟩
theorem d_Tue_refusalOfCells_64 : zd b_Tue_refusalOfCells 64 (.invokevirtual 216) 3 67 := ⟨by decide +kernel, rfl⟩
theorem d_Tue_refusalOfCells_67 : zd b_Tue_refusalOfCells 67 .ireturn 1 68 := ⟨by decide +kernel, rfl⟩
theorem d_Tue_takeRow_0 : zd_l .aload_n .aload b_Tue_takeRow 0 0 1 := Or.inl ⟨0, rfl, by decide +kernel, rfl⟩
theorem d_Tue_takeRow_1 : zd_k b_Tue_takeRow "SameTuesday" 1 0 2 := Or.inl ⟨0, by decide +kernel, by decide, rfl⟩
theorem d_Tue_takeRow_2 : zd b_Tue_takeRow 2 (.putfield 55) 3 5 := ⟨by decide +kernel, rfl⟩
theorem d_Tue_takeRow_5 : zd_l .aload_n .aload b_Tue_takeRow 5 0 6 := Or.inl ⟨0, rfl, by decide +kernel, rfl⟩
theorem d_Tue_takeRow_6 : zd_l .iload_n .iload b_Tue_takeRow 6 1 7 := Or.inl ⟨1, rfl, by decide +kernel, rfl⟩
theorem d_Tue_takeRow_7 : zd b_Tue_takeRow 7 (.invokevirtual 59) 3 10 := ⟨by decide +kernel, rfl⟩
theorem d_Tue_takeRow_10 : zd_l .astore_n .astore b_Tue_takeRow 10 6 12 := Or.inr ⟨by decide +kernel, rfl⟩
theorem d_Tue_takeRow_12 : zd_l .aload_n .aload b_Tue_takeRow 12 6 14 := Or.inr ⟨by decide +kernel, rfl⟩
theorem d_Tue_takeRow_14 : zd_b b_Tue_takeRow 14 .ifnonnull 17 19 := ⟨5, by decide +kernel, by decide, rfl⟩
theorem d_Tue_takeRow_17 : zd_k b_Tue_takeRow "SameTuesday" 17 (-1) 18 := Or.inl ⟨(-1), by decide +kernel, by decide, rfl⟩
theorem d_Tue_takeRow_18 : zd b_Tue_takeRow 18 .ireturn 1 19 := ⟨by decide +kernel, rfl⟩
theorem d_Tue_takeRow_19 : zd_l .iload_n .iload b_Tue_takeRow 19 4 21 := Or.inr ⟨by decide +kernel, rfl⟩
theorem d_Tue_takeRow_21 : zd_b b_Tue_takeRow 21 (.ifCond .lt) 24 36 := ⟨15, by decide +kernel, by decide, rfl⟩
theorem d_Tue_takeRow_24 : zd_l .iload_n .iload b_Tue_takeRow 24 4 26 := Or.inr ⟨by decide +kernel, rfl⟩
theorem d_Tue_takeRow_26 : zd_k b_Tue_takeRow "SameTuesday" 26 20 28 := Or.inr (Or.inl ⟨20, by decide +kernel, by decide, rfl⟩)
theorem d_Tue_takeRow_28 : zd_b b_Tue_takeRow 28 (.if_icmp .gt) 31 36 := ⟨8, by decide +kernel, by decide, rfl⟩
theorem d_Tue_takeRow_31 : zd_l .iload_n .iload b_Tue_takeRow 31 5 33 := Or.inr ⟨by decide +kernel, rfl⟩
theorem d_Tue_takeRow_33 : zd_b b_Tue_takeRow 33 (.ifCond .ne) 36 39 := ⟨6, by decide +kernel, by decide, rfl⟩
theorem d_Tue_takeRow_36 : zd_k b_Tue_takeRow "SameTuesday" 36 (-2) 38 := Or.inr (Or.inl ⟨(-2), by decide +kernel, by decide, rfl⟩)
theorem d_Tue_takeRow_38 : zd b_Tue_takeRow 38 .ireturn 1 39 := ⟨by decide +kernel, rfl⟩
theorem d_Tue_takeRow_39 : zd_l .aload_n .aload b_Tue_takeRow 39 0 40 := Or.inl ⟨0, rfl, by decide +kernel, rfl⟩
theorem d_Tue_takeRow_40 : zd_l .aload_n .aload b_Tue_takeRow 40 6 42 := Or.inr ⟨by decide +kernel, rfl⟩
theorem d_Tue_takeRow_42 : zd_l .iload_n .iload b_Tue_takeRow 42 2 43 := Or.inl ⟨2, rfl, by decide +kernel, rfl⟩
theorem d_Tue_takeRow_43 : zd_l .iload_n .iload b_Tue_takeRow 43 3 44 := Or.inl ⟨3, rfl, by decide +kernel, rfl⟩
theorem d_Tue_takeRow_44 : zd_k b_Tue_takeRow "SameTuesday" 44 2 45 := Or.inl ⟨2, by decide +kernel, by decide, rfl⟩
theorem d_Tue_takeRow_45 : zd_l .iload_n .iload b_Tue_takeRow 45 4 47 := Or.inr ⟨by decide +kernel, rfl⟩
theorem d_Tue_takeRow_47 : zd b_Tue_takeRow 47 .imul 1 48 := ⟨by decide +kernel, rfl⟩
theorem d_Tue_takeRow_48 : zd b_Tue_takeRow 48 (.invokevirtual 63) 3 51 := ⟨by decide +kernel, rfl⟩
theorem d_Tue_takeRow_51 : zd_l .istore_n .istore b_Tue_takeRow 51 7 53 := Or.inr ⟨by decide +kernel, rfl⟩
theorem d_Tue_takeRow_53 : zd_l .iload_n .iload b_Tue_takeRow 53 7 55 := Or.inr ⟨by decide +kernel, rfl⟩
theorem d_Tue_takeRow_55 : zd_b b_Tue_takeRow 55 (.ifCond .eq) 58 61 := ⟨6, by decide +kernel, by decide, rfl⟩
theorem d_Tue_takeRow_58 : zd_l .iload_n .iload b_Tue_takeRow 58 7 60 := Or.inr ⟨by decide +kernel, rfl⟩
theorem d_Tue_takeRow_60 : zd b_Tue_takeRow 60 .ireturn 1 61 := ⟨by decide +kernel, rfl⟩
theorem d_Tue_takeRow_61 : zd_l .aload_n .aload b_Tue_takeRow 61 0 62 := Or.inl ⟨0, rfl, by decide +kernel, rfl⟩
theorem d_Tue_takeRow_62 : zd b_Tue_takeRow 62 (.getfield 21) 3 65 := ⟨by decide +kernel, rfl⟩
theorem d_Tue_takeRow_65 : zd b_Tue_takeRow 65 (.invokevirtual 125) 3 68 := ⟨by decide +kernel, rfl⟩
theorem d_Tue_takeRow_68 : zd_b b_Tue_takeRow 68 (.ifCond .eq) 71 86 := ⟨18, by decide +kernel, by decide, rfl⟩
theorem d_Tue_takeRow_71 : zd_l .aload_n .aload b_Tue_takeRow 71 0 72 := Or.inl ⟨0, rfl, by decide +kernel, rfl⟩
theorem d_Tue_takeRow_72 : zd b_Tue_takeRow 72 (.getfield 30) 3 75 := ⟨by decide +kernel, rfl⟩
theorem d_Tue_takeRow_75 : zd_l .aload_n .aload b_Tue_takeRow 75 6 77 := Or.inr ⟨by decide +kernel, rfl⟩
theorem d_Tue_takeRow_77 : zd_l .iload_n .iload b_Tue_takeRow 77 3 78 := Or.inl ⟨3, rfl, by decide +kernel, rfl⟩
theorem d_Tue_takeRow_78 : zd_l .iload_n .iload b_Tue_takeRow 78 4 80 := Or.inr ⟨by decide +kernel, rfl⟩
theorem d_Tue_takeRow_80 : zd b_Tue_takeRow 80 (.invokevirtual 263) 3 83 := ⟨by decide +kernel, rfl⟩
theorem d_Tue_takeRow_83 : zd_b b_Tue_takeRow 83 .goto 86 88 := ⟨5, by decide +kernel, by decide, rfl⟩
theorem d_Tue_takeRow_86 : zd_k b_Tue_takeRow "SameTuesday" 86 (-3) 88 := Or.inr (Or.inl ⟨(-3), by decide +kernel, by decide, rfl⟩)
theorem d_Tue_takeRow_88 : zd b_Tue_takeRow 88 .ireturn 1 89 := ⟨by decide +kernel, rfl⟩
theorem d_Tue_isLane_0 : zd_l .iload_n .iload b_Tue_isLane 0 0 1 := Or.inl ⟨0, rfl, by decide +kernel, rfl⟩
theorem d_Tue_isLane_1 : zd_b b_Tue_isLane 1 (.ifCond .lt) 4 13 := ⟨12, by decide +kernel, by decide, rfl⟩
theorem d_Tue_isLane_4 : zd_l .iload_n .iload b_Tue_isLane 4 0 5 := Or.inl ⟨0, rfl, by decide +kernel, rfl⟩
theorem d_Tue_isLane_5 : zd_k b_Tue_isLane "SameTuesday" 5 3 6 := Or.inl ⟨3, by decide +kernel, by decide, rfl⟩
theorem d_Tue_isLane_6 : zd_b b_Tue_isLane 6 (.if_icmp .ge) 9 13 := ⟨7, by decide +kernel, by decide, rfl⟩
theorem d_Tue_isLane_9 : zd_k b_Tue_isLane "SameTuesday" 9 1 10 := Or.inl ⟨1, by decide +kernel, by decide, rfl⟩
theorem d_Tue_isLane_10 : zd_b b_Tue_isLane 10 .goto 13 14 := ⟨4, by decide +kernel, by decide, rfl⟩
theorem d_Tue_isLane_13 : zd_k b_Tue_isLane "SameTuesday" 13 0 14 := Or.inl ⟨0, by decide +kernel, by decide, rfl⟩
theorem d_Tue_isLane_14 : zd b_Tue_isLane 14 .ireturn 1 15 := ⟨by decide +kernel, rfl⟩
theorem d_Tue_isSet_0 : zd_l .iload_n .iload b_Tue_isSet 0 0 1 := Or.inl ⟨0, rfl, by decide +kernel, rfl⟩
theorem d_Tue_isSet_1 : zd_b b_Tue_isSet 1 (.ifCond .lt) 4 14 := ⟨13, by decide +kernel, by decide, rfl⟩
theorem d_Tue_isSet_4 : zd_l .iload_n .iload b_Tue_isSet 4 0 5 := Or.inl ⟨0, rfl, by decide +kernel, rfl⟩
theorem d_Tue_isSet_5 : zd_k b_Tue_isSet "SameTuesday" 5 64 7 := Or.inr (Or.inl ⟨64, by decide +kernel, by decide, rfl⟩)
theorem d_Tue_isSet_7 : zd_b b_Tue_isSet 7 (.if_icmp .ge) 10 14 := ⟨7, by decide +kernel, by decide, rfl⟩
theorem d_Tue_isSet_10 : zd_k b_Tue_isSet "SameTuesday" 10 1 11 := Or.inl ⟨1, by decide +kernel, by decide, rfl⟩
theorem d_Tue_isSet_11 : zd_b b_Tue_isSet 11 .goto 14 15 := ⟨4, by decide +kernel, by decide, rfl⟩
theorem d_Tue_isSet_14 : zd_k b_Tue_isSet "SameTuesday" 14 0 15 := Or.inl ⟨0, by decide +kernel, by decide, rfl⟩
theorem d_Tue_isSet_15 : zd b_Tue_isSet 15 .ireturn 1 16 := ⟨by decide +kernel, rfl⟩
theorem d_Tue_isMinute_0 : zd_l .iload_n .iload b_Tue_isMinute 0 0 1 := Or.inl ⟨0, rfl, by decide +kernel, rfl⟩
theorem d_Tue_isMinute_1 : zd_b b_Tue_isMinute 1 (.ifCond .lt) 4 14 := ⟨13, by decide +kernel, by decide, rfl⟩
theorem d_Tue_isMinute_4 : zd_l .iload_n .iload b_Tue_isMinute 4 0 5 := Or.inl ⟨0, rfl, by decide +kernel, rfl⟩
theorem d_Tue_isMinute_5 : zd_k b_Tue_isMinute "SameTuesday" 5 60 7 := Or.inr (Or.inl ⟨60, by decide +kernel, by decide, rfl⟩)
theorem d_Tue_isMinute_7 : zd_b b_Tue_isMinute 7 (.if_icmp .ge) 10 14 := ⟨7, by decide +kernel, by decide, rfl⟩
theorem d_Tue_isMinute_10 : zd_k b_Tue_isMinute "SameTuesday" 10 1 11 := Or.inl ⟨1, by decide +kernel, by decide, rfl⟩
theorem d_Tue_isMinute_11 : zd_b b_Tue_isMinute 11 .goto 14 15 := ⟨4, by decide +kernel, by decide, rfl⟩
theorem d_Tue_isMinute_14 : zd_k b_Tue_isMinute "SameTuesday" 14 0 15 := Or.inl ⟨0, by decide +kernel, by decide, rfl⟩
theorem d_Tue_isMinute_15 : zd b_Tue_isMinute 15 .ireturn 1 16 := ⟨by decide +kernel, rfl⟩
theorem d_Tue_greatestCommon_0 : zd_l .iload_n .iload b_Tue_greatestCommon 0 0 1 := Or.inl ⟨0, rfl, by decide +kernel, rfl⟩
theorem d_Tue_greatestCommon_1 : zd_l .istore_n .istore b_Tue_greatestCommon 1 2 2 := Or.inl ⟨2, rfl, by decide +kernel, rfl⟩
theorem d_Tue_greatestCommon_2 : zd_l .iload_n .iload b_Tue_greatestCommon 2 1 3 := Or.inl ⟨1, rfl, by decide +kernel, rfl⟩
theorem d_Tue_greatestCommon_3 : zd_l .istore_n .istore b_Tue_greatestCommon 3 3 4 := Or.inl ⟨3, rfl, by decide +kernel, rfl⟩
theorem d_Tue_greatestCommon_4 : zd_k b_Tue_greatestCommon "SameTuesday" 4 0 5 := Or.inl ⟨0, by decide +kernel, by decide, rfl⟩
theorem d_Tue_greatestCommon_5 : zd_l .istore_n .istore b_Tue_greatestCommon 5 4 7 := Or.inr ⟨by decide +kernel, rfl⟩
theorem d_Tue_greatestCommon_7 : zd_l .iload_n .iload b_Tue_greatestCommon 7 4 9 := Or.inr ⟨by decide +kernel, rfl⟩
theorem d_Tue_greatestCommon_9 : zd_k b_Tue_greatestCommon "SameTuesday" 9 64 11 := Or.inr (Or.inl ⟨64, by decide +kernel, by decide, rfl⟩)
theorem d_Tue_greatestCommon_11 : zd_b b_Tue_greatestCommon 11 (.if_icmp .ge) 14 34 := ⟨23, by decide +kernel, by decide, rfl⟩
theorem d_Tue_greatestCommon_14 : zd_l .iload_n .iload b_Tue_greatestCommon 14 3 15 := Or.inl ⟨3, rfl, by decide +kernel, rfl⟩
theorem d_Tue_greatestCommon_15 : zd_b b_Tue_greatestCommon 15 (.ifCond .le) 18 34 := ⟨19, by decide +kernel, by decide, rfl⟩
theorem d_Tue_greatestCommon_18 : zd_l .iload_n .iload b_Tue_greatestCommon 18 2 19 := Or.inl ⟨2, rfl, by decide +kernel, rfl⟩
theorem d_Tue_greatestCommon_19 : zd_l .iload_n .iload b_Tue_greatestCommon 19 3 20 := Or.inl ⟨3, rfl, by decide +kernel, rfl⟩
theorem d_Tue_greatestCommon_20 : zd b_Tue_greatestCommon 20 .irem 1 21 := ⟨by decide +kernel, rfl⟩
theorem d_Tue_greatestCommon_21 : zd_l .istore_n .istore b_Tue_greatestCommon 21 5 23 := Or.inr ⟨by decide +kernel, rfl⟩
theorem d_Tue_greatestCommon_23 : zd_l .iload_n .iload b_Tue_greatestCommon 23 3 24 := Or.inl ⟨3, rfl, by decide +kernel, rfl⟩
theorem d_Tue_greatestCommon_24 : zd_l .istore_n .istore b_Tue_greatestCommon 24 2 25 := Or.inl ⟨2, rfl, by decide +kernel, rfl⟩
theorem d_Tue_greatestCommon_25 : zd_l .iload_n .iload b_Tue_greatestCommon 25 5 27 := Or.inr ⟨by decide +kernel, rfl⟩
theorem d_Tue_greatestCommon_27 : zd_l .istore_n .istore b_Tue_greatestCommon 27 3 28 := Or.inl ⟨3, rfl, by decide +kernel, rfl⟩
theorem d_Tue_greatestCommon_28 : zd_i b_Tue_greatestCommon 28 4 1 1 31 := ⟨by decide +kernel, by decide, rfl⟩
theorem d_Tue_greatestCommon_31 : zd_b b_Tue_greatestCommon 31 .goto 34 7 := ⟨(-24), by decide +kernel, by decide, rfl⟩
theorem d_Tue_greatestCommon_34 : zd_l .iload_n .iload b_Tue_greatestCommon 34 2 35 := Or.inl ⟨2, rfl, by decide +kernel, rfl⟩
theorem d_Tue_greatestCommon_35 : zd b_Tue_greatestCommon 35 .ireturn 1 36 := ⟨by decide +kernel, rfl⟩
theorem d_Tue_hasState_0 : zd_l .lload_n .lload b_Tue_hasState 0 0 1 := Or.inl ⟨0, rfl, by decide +kernel, rfl⟩
theorem d_Tue_hasState_1 : zd_l .iload_n .iload b_Tue_hasState 1 2 2 := Or.inl ⟨2, rfl, by decide +kernel, rfl⟩
theorem d_Tue_hasState_2 : zd b_Tue_hasState 2 .lushr 1 3 := ⟨by decide +kernel, rfl⟩
theorem d_Tue_hasState_3 : zd_kl b_Tue_hasState "SameTuesday" 3 1 4 := Or.inl ⟨1, by decide +kernel, by decide, rfl⟩
theorem d_Tue_hasState_4 : zd b_Tue_hasState 4 .land 1 5 := ⟨by decide +kernel, rfl⟩
theorem d_Tue_hasState_5 : zd_kl b_Tue_hasState "SameTuesday" 5 1 6 := Or.inl ⟨1, by decide +kernel, by decide, rfl⟩
theorem d_Tue_hasState_6 : zd b_Tue_hasState 6 .lcmp 1 7 := ⟨by decide +kernel, rfl⟩
theorem d_Tue_hasState_7 : zd_b b_Tue_hasState 7 (.ifCond .ne) 10 14 := ⟨7, by decide +kernel, by decide, rfl⟩
theorem d_Tue_hasState_10 : zd_k b_Tue_hasState "SameTuesday" 10 1 11 := Or.inl ⟨1, by decide +kernel, by decide, rfl⟩
theorem d_Tue_hasState_11 : zd_b b_Tue_hasState 11 .goto 14 15 := ⟨4, by decide +kernel, by decide, rfl⟩
theorem d_Tue_hasState_14 : zd_k b_Tue_hasState "SameTuesday" 14 0 15 := Or.inl ⟨0, by decide +kernel, by decide, rfl⟩
theorem d_Tue_hasState_15 : zd b_Tue_hasState 15 .ireturn 1 16 := ⟨by decide +kernel, rfl⟩
theorem d_Tue_worldWith_0 : zd_l .iload_n .iload b_Tue_worldWith 0 0 1 := Or.inl ⟨0, rfl, by decide +kernel, rfl⟩
theorem d_Tue_worldWith_1 : zd_b b_Tue_worldWith 1 (.ifCond .lt) 4 20 := ⟨19, by decide +kernel, by decide, rfl⟩
theorem d_Tue_worldWith_4 : zd_l .iload_n .iload b_Tue_worldWith 4 0 5 := Or.inl ⟨0, rfl, by decide +kernel, rfl⟩
theorem d_Tue_worldWith_5 : zd b_Tue_worldWith 5 (.getstatic 267) 3 8 := ⟨by decide +kernel, rfl⟩
theorem d_Tue_worldWith_8 : zd b_Tue_worldWith 8 .arraylength 1 9 := ⟨by decide +kernel, rfl⟩
theorem d_Tue_worldWith_9 : zd_b b_Tue_worldWith 9 (.if_icmp .ge) 12 20 := ⟨11, by decide +kernel, by decide, rfl⟩
theorem d_Tue_worldWith_12 : zd b_Tue_worldWith 12 (.getstatic 267) 3 15 := ⟨by decide +kernel, rfl⟩
theorem d_Tue_worldWith_15 : zd_l .iload_n .iload b_Tue_worldWith 15 0 16 := Or.inl ⟨0, rfl, by decide +kernel, rfl⟩
theorem d_Tue_worldWith_16 : zd b_Tue_worldWith 16 .laload 1 17 := ⟨by decide +kernel, rfl⟩
theorem d_Tue_worldWith_17 : zd_b b_Tue_worldWith 17 .goto 20 23 := ⟨6, by decide +kernel, by decide, rfl⟩
set_option maxRecDepth 20000 in
theorem d_Tue_worldWith_20 : zd_kl b_Tue_worldWith "SameTuesday" 20 (-1) 23 := Or.inr ⟨271, by decide +kernel, zb_mem 350 rfl rfl, rfl⟩
theorem d_Tue_worldWith_23 : zd b_Tue_worldWith 23 .lreturn 1 24 := ⟨by decide +kernel, rfl⟩
set_option maxRecDepth 20000 in
theorem d_Tue_worldWithAll_0 : zd_kl b_Tue_worldWithAll "SameTuesday" 0 (-1) 3 := Or.inr ⟨271, by decide +kernel, zb_mem 350 rfl rfl, rfl⟩
theorem d_Tue_worldWithAll_3 : zd_l .lstore_n .lstore b_Tue_worldWithAll 3 1 4 := Or.inl ⟨1, rfl, by decide +kernel, rfl⟩
theorem d_Tue_worldWithAll_4 : zd_k b_Tue_worldWithAll "SameTuesday" 4 0 5 := Or.inl ⟨0, by decide +kernel, by decide, rfl⟩
theorem d_Tue_worldWithAll_5 : zd_l .istore_n .istore b_Tue_worldWithAll 5 3 6 := Or.inl ⟨3, rfl, by decide +kernel, rfl⟩
theorem d_Tue_worldWithAll_6 : zd_l .iload_n .iload b_Tue_worldWithAll 6 3 7 := Or.inl ⟨3, rfl, by decide +kernel, rfl⟩
theorem d_Tue_worldWithAll_7 : zd_k b_Tue_worldWithAll "SameTuesday" 7 6 9 := Or.inr (Or.inl ⟨6, by decide +kernel, by decide, rfl⟩)
theorem d_Tue_worldWithAll_9 : zd_b b_Tue_worldWithAll 9 (.if_icmp .ge) 12 34 := ⟨25, by decide +kernel, by decide, rfl⟩
theorem d_Tue_worldWithAll_12 : zd_l .iload_n .iload b_Tue_worldWithAll 12 0 13 := Or.inl ⟨0, rfl, by decide +kernel, rfl⟩
theorem d_Tue_worldWithAll_13 : zd_l .iload_n .iload b_Tue_worldWithAll 13 3 14 := Or.inl ⟨3, rfl, by decide +kernel, rfl⟩
theorem d_Tue_worldWithAll_14 : zd b_Tue_worldWithAll 14 .ishr 1 15 := ⟨by decide +kernel, rfl⟩
theorem d_Tue_worldWithAll_15 : zd_k b_Tue_worldWithAll "SameTuesday" 15 1 16 := Or.inl ⟨1, by decide +kernel, by decide, rfl⟩
theorem d_Tue_worldWithAll_16 : zd b_Tue_worldWithAll 16 .iand 1 17 := ⟨by decide +kernel, rfl⟩
theorem d_Tue_worldWithAll_17 : zd_k b_Tue_worldWithAll "SameTuesday" 17 1 18 := Or.inl ⟨1, by decide +kernel, by decide, rfl⟩
theorem d_Tue_worldWithAll_18 : zd_b b_Tue_worldWithAll 18 (.if_icmp .ne) 21 28 := ⟨10, by decide +kernel, by decide, rfl⟩
theorem d_Tue_worldWithAll_21 : zd_l .lload_n .lload b_Tue_worldWithAll 21 1 22 := Or.inl ⟨1, rfl, by decide +kernel, rfl⟩
theorem d_Tue_worldWithAll_22 : zd_l .iload_n .iload b_Tue_worldWithAll 22 3 23 := Or.inl ⟨3, rfl, by decide +kernel, rfl⟩
theorem d_Tue_worldWithAll_23 : zd b_Tue_worldWithAll 23 (.invokestatic 273) 3 26 := ⟨by decide +kernel, rfl⟩
theorem d_Tue_worldWithAll_26 : zd b_Tue_worldWithAll 26 .land 1 27 := ⟨by decide +kernel, rfl⟩
theorem d_Tue_worldWithAll_27 : zd_l .lstore_n .lstore b_Tue_worldWithAll 27 1 28 := Or.inl ⟨1, rfl, by decide +kernel, rfl⟩
theorem d_Tue_worldWithAll_28 : zd_i b_Tue_worldWithAll 28 3 1 1 31 := ⟨by decide +kernel, by decide, rfl⟩
theorem d_Tue_worldWithAll_31 : zd_b b_Tue_worldWithAll 31 .goto 34 6 := ⟨(-25), by decide +kernel, by decide, rfl⟩
theorem d_Tue_worldWithAll_34 : zd_l .lload_n .lload b_Tue_worldWithAll 34 1 35 := Or.inl ⟨1, rfl, by decide +kernel, rfl⟩
theorem d_Tue_worldWithAll_35 : zd b_Tue_worldWithAll 35 .lreturn 1 36 := ⟨by decide +kernel, rfl⟩
set_option maxRecDepth 20000 in
theorem d_Tue_worldWithin_0 : zd_kl b_Tue_worldWithin "SameTuesday" 0 (-1) 3 := Or.inr ⟨271, by decide +kernel, zb_mem 350 rfl rfl, rfl⟩
theorem d_Tue_worldWithin_3 : zd_l .lstore_n .lstore b_Tue_worldWithin 3 1 4 := Or.inl ⟨1, rfl, by decide +kernel, rfl⟩
theorem d_Tue_worldWithin_4 : zd_k b_Tue_worldWithin "SameTuesday" 4 0 5 := Or.inl ⟨0, by decide +kernel, by decide, rfl⟩
theorem d_Tue_worldWithin_5 : zd_l .istore_n .istore b_Tue_worldWithin 5 3 6 := Or.inl ⟨3, rfl, by decide +kernel, rfl⟩
theorem d_Tue_worldWithin_6 : zd_l .iload_n .iload b_Tue_worldWithin 6 3 7 := Or.inl ⟨3, rfl, by decide +kernel, rfl⟩
theorem d_Tue_worldWithin_7 : zd_k b_Tue_worldWithin "SameTuesday" 7 6 9 := Or.inr (Or.inl ⟨6, by decide +kernel, by decide, rfl⟩)
theorem d_Tue_worldWithin_9 : zd_b b_Tue_worldWithin 9 (.if_icmp .ge) 12 37 := ⟨28, by decide +kernel, by decide, rfl⟩
theorem d_Tue_worldWithin_12 : zd_l .iload_n .iload b_Tue_worldWithin 12 0 13 := Or.inl ⟨0, rfl, by decide +kernel, rfl⟩
theorem d_Tue_worldWithin_13 : zd_l .iload_n .iload b_Tue_worldWithin 13 3 14 := Or.inl ⟨3, rfl, by decide +kernel, rfl⟩
theorem d_Tue_worldWithin_14 : zd b_Tue_worldWithin 14 .ishr 1 15 := ⟨by decide +kernel, rfl⟩
theorem d_Tue_worldWithin_15 : zd_k b_Tue_worldWithin "SameTuesday" 15 1 16 := Or.inl ⟨1, by decide +kernel, by decide, rfl⟩
theorem d_Tue_worldWithin_16 : zd b_Tue_worldWithin 16 .iand 1 17 := ⟨by decide +kernel, rfl⟩
theorem d_Tue_worldWithin_17 : zd_b b_Tue_worldWithin 17 (.ifCond .ne) 20 31 := ⟨14, by decide +kernel, by decide, rfl⟩
theorem d_Tue_worldWithin_20 : zd_l .lload_n .lload b_Tue_worldWithin 20 1 21 := Or.inl ⟨1, rfl, by decide +kernel, rfl⟩
theorem d_Tue_worldWithin_21 : zd_l .iload_n .iload b_Tue_worldWithin 21 3 22 := Or.inl ⟨3, rfl, by decide +kernel, rfl⟩
theorem d_Tue_worldWithin_22 : zd b_Tue_worldWithin 22 (.invokestatic 273) 3 25 := ⟨by decide +kernel, rfl⟩
set_option maxRecDepth 20000 in
theorem d_Tue_worldWithin_25 : zd_kl b_Tue_worldWithin "SameTuesday" 25 (-1) 28 := Or.inr ⟨271, by decide +kernel, zb_mem 350 rfl rfl, rfl⟩
theorem d_Tue_worldWithin_28 : zd b_Tue_worldWithin 28 .lxor 1 29 := ⟨by decide +kernel, rfl⟩
theorem d_Tue_worldWithin_29 : zd b_Tue_worldWithin 29 .land 1 30 := ⟨by decide +kernel, rfl⟩
theorem d_Tue_worldWithin_30 : zd_l .lstore_n .lstore b_Tue_worldWithin 30 1 31 := Or.inl ⟨1, rfl, by decide +kernel, rfl⟩
theorem d_Tue_worldWithin_31 : zd_i b_Tue_worldWithin 31 3 1 1 34 := ⟨by decide +kernel, by decide, rfl⟩
theorem d_Tue_worldWithin_34 : zd_b b_Tue_worldWithin 34 .goto 37 6 := ⟨(-28), by decide +kernel, by decide, rfl⟩
theorem d_Tue_worldWithin_37 : zd_l .lload_n .lload b_Tue_worldWithin 37 1 38 := Or.inl ⟨1, rfl, by decide +kernel, rfl⟩
theorem d_Tue_worldWithin_38 : zd b_Tue_worldWithin 38 .lreturn 1 39 := ⟨by decide +kernel, rfl⟩
theorem d_Tue_lesserPart_0 : zd_l .lload_n .lload b_Tue_lesserPart 0 0 1 := Or.inl ⟨0, rfl, by decide +kernel, rfl⟩
theorem d_Tue_lesserPart_1 : zd_l .iload_n .iload b_Tue_lesserPart 1 2 2 := Or.inl ⟨2, rfl, by decide +kernel, rfl⟩
theorem d_Tue_lesserPart_2 : zd b_Tue_lesserPart 2 (.invokestatic 276) 3 5 := ⟨by decide +kernel, rfl⟩
theorem d_Tue_lesserPart_5 : zd b_Tue_lesserPart 5 .land 1 6 := ⟨by decide +kernel, rfl⟩
theorem d_Tue_lesserPart_6 : zd b_Tue_lesserPart 6 (.invokestatic 185) 3 9 := ⟨by decide +kernel, rfl⟩
theorem d_Tue_lesserPart_9 : zd_l .istore_n .istore b_Tue_lesserPart 9 3 10 := Or.inl ⟨3, rfl, by decide +kernel, rfl⟩
theorem d_Tue_lesserPart_10 : zd_l .iload_n .iload b_Tue_lesserPart 10 3 11 := Or.inl ⟨3, rfl, by decide +kernel, rfl⟩
theorem d_Tue_lesserPart_11 : zd_l .lload_n .lload b_Tue_lesserPart 11 0 12 := Or.inl ⟨0, rfl, by decide +kernel, rfl⟩
theorem d_Tue_lesserPart_12 : zd b_Tue_lesserPart 12 (.invokestatic 185) 3 15 := ⟨by decide +kernel, rfl⟩
theorem d_Tue_lesserPart_15 : zd_l .iload_n .iload b_Tue_lesserPart 15 3 16 := Or.inl ⟨3, rfl, by decide +kernel, rfl⟩
theorem d_Tue_lesserPart_16 : zd b_Tue_lesserPart 16 .isub 1 17 := ⟨by decide +kernel, rfl⟩
theorem d_Tue_lesserPart_17 : zd b_Tue_lesserPart 17 (.invokestatic 279) 3 20 := ⟨by decide +kernel, rfl⟩
theorem d_Tue_lesserPart_20 : zd b_Tue_lesserPart 20 .ireturn 1 21 := ⟨by decide +kernel, rfl⟩
theorem d_JInt_numberOfTrailingZeros_0 : zd_l .iload_n .iload b_JInt_numberOfTrailingZeros 0 0 1 := Or.inl ⟨0, rfl, by decide +kernel, rfl⟩
theorem d_JInt_numberOfTrailingZeros_1 : zd_k b_JInt_numberOfTrailingZeros "java/lang/Integer" 1 (-1) 2 := Or.inl ⟨(-1), by decide +kernel, by decide, rfl⟩
theorem d_JInt_numberOfTrailingZeros_2 : zd b_JInt_numberOfTrailingZeros 2 .ixor 1 3 := ⟨by decide +kernel, rfl⟩
theorem d_JInt_numberOfTrailingZeros_3 : zd_l .iload_n .iload b_JInt_numberOfTrailingZeros 3 0 4 := Or.inl ⟨0, rfl, by decide +kernel, rfl⟩
theorem d_JInt_numberOfTrailingZeros_4 : zd_k b_JInt_numberOfTrailingZeros "java/lang/Integer" 4 1 5 := Or.inl ⟨1, by decide +kernel, by decide, rfl⟩
theorem d_JInt_numberOfTrailingZeros_5 : zd b_JInt_numberOfTrailingZeros 5 .isub 1 6 := ⟨by decide +kernel, rfl⟩
theorem d_JInt_numberOfTrailingZeros_6 : zd b_JInt_numberOfTrailingZeros 6 .iand 1 7 := ⟨by decide +kernel, rfl⟩
theorem d_JInt_numberOfTrailingZeros_7 : zd_l .istore_n .istore b_JInt_numberOfTrailingZeros 7 0 8 := Or.inl ⟨0, rfl, by decide +kernel, rfl⟩
theorem d_JInt_numberOfTrailingZeros_8 : zd_l .iload_n .iload b_JInt_numberOfTrailingZeros 8 0 9 := Or.inl ⟨0, rfl, by decide +kernel, rfl⟩
theorem d_JInt_numberOfTrailingZeros_9 : zd_b b_JInt_numberOfTrailingZeros 9 (.ifCond .gt) 12 17 := ⟨8, by decide +kernel, by decide, rfl⟩
theorem d_JInt_numberOfTrailingZeros_12 : zd_l .iload_n .iload b_JInt_numberOfTrailingZeros 12 0 13 := Or.inl ⟨0, rfl, by decide +kernel, rfl⟩
theorem d_JInt_numberOfTrailingZeros_13 : zd_k b_JInt_numberOfTrailingZeros "java/lang/Integer" 13 32 15 := Or.inr (Or.inl ⟨32, by decide +kernel, by decide, rfl⟩)
theorem d_JInt_numberOfTrailingZeros_15 : zd b_JInt_numberOfTrailingZeros 15 .iand 1 16 := ⟨by decide +kernel, rfl⟩
theorem d_JInt_numberOfTrailingZeros_16 : zd b_JInt_numberOfTrailingZeros 16 .ireturn 1 17 := ⟨by decide +kernel, rfl⟩
theorem d_JInt_numberOfTrailingZeros_17 : zd_k b_JInt_numberOfTrailingZeros "java/lang/Integer" 17 1 18 := Or.inl ⟨1, by decide +kernel, by decide, rfl⟩
theorem d_JInt_numberOfTrailingZeros_18 : zd_l .istore_n .istore b_JInt_numberOfTrailingZeros 18 1 19 := Or.inl ⟨1, rfl, by decide +kernel, rfl⟩
theorem d_JInt_numberOfTrailingZeros_19 : zd_l .iload_n .iload b_JInt_numberOfTrailingZeros 19 0 20 := Or.inl ⟨0, rfl, by decide +kernel, rfl⟩
set_option maxRecDepth 20000 in
theorem d_JInt_numberOfTrailingZeros_20 : zd_k b_JInt_numberOfTrailingZeros "java/lang/Integer" 20 65536 23 := Or.inr (Or.inr (Or.inr ⟨264, by decide +kernel, zb_mem 607 rfl rfl, rfl⟩))
theorem d_JInt_numberOfTrailingZeros_23 : zd_b b_JInt_numberOfTrailingZeros 23 (.if_icmp .le) 26 34 := ⟨11, by decide +kernel, by decide, rfl⟩
theorem d_JInt_numberOfTrailingZeros_26 : zd_i b_JInt_numberOfTrailingZeros 26 1 16 16 29 := ⟨by decide +kernel, by decide, rfl⟩
theorem d_JInt_numberOfTrailingZeros_29 : zd_l .iload_n .iload b_JInt_numberOfTrailingZeros 29 0 30 := Or.inl ⟨0, rfl, by decide +kernel, rfl⟩
theorem d_JInt_numberOfTrailingZeros_30 : zd_k b_JInt_numberOfTrailingZeros "java/lang/Integer" 30 16 32 := Or.inr (Or.inl ⟨16, by decide +kernel, by decide, rfl⟩)
theorem d_JInt_numberOfTrailingZeros_32 : zd b_JInt_numberOfTrailingZeros 32 .iushr 1 33 := ⟨by decide +kernel, rfl⟩
theorem d_JInt_numberOfTrailingZeros_33 : zd_l .istore_n .istore b_JInt_numberOfTrailingZeros 33 0 34 := Or.inl ⟨0, rfl, by decide +kernel, rfl⟩
theorem d_JInt_numberOfTrailingZeros_34 : zd_l .iload_n .iload b_JInt_numberOfTrailingZeros 34 0 35 := Or.inl ⟨0, rfl, by decide +kernel, rfl⟩
theorem d_JInt_numberOfTrailingZeros_35 : zd_k b_JInt_numberOfTrailingZeros "java/lang/Integer" 35 256 38 := Or.inr (Or.inr (Or.inl ⟨256, by decide +kernel, by decide, rfl⟩))
theorem d_JInt_numberOfTrailingZeros_38 : zd_b b_JInt_numberOfTrailingZeros 38 (.if_icmp .le) 41 49 := ⟨11, by decide +kernel, by decide, rfl⟩
theorem d_JInt_numberOfTrailingZeros_41 : zd_i b_JInt_numberOfTrailingZeros 41 1 8 8 44 := ⟨by decide +kernel, by decide, rfl⟩
theorem d_JInt_numberOfTrailingZeros_44 : zd_l .iload_n .iload b_JInt_numberOfTrailingZeros 44 0 45 := Or.inl ⟨0, rfl, by decide +kernel, rfl⟩
theorem d_JInt_numberOfTrailingZeros_45 : zd_k b_JInt_numberOfTrailingZeros "java/lang/Integer" 45 8 47 := Or.inr (Or.inl ⟨8, by decide +kernel, by decide, rfl⟩)
theorem d_JInt_numberOfTrailingZeros_47 : zd b_JInt_numberOfTrailingZeros 47 .iushr 1 48 := ⟨by decide +kernel, rfl⟩
theorem d_JInt_numberOfTrailingZeros_48 : zd_l .istore_n .istore b_JInt_numberOfTrailingZeros 48 0 49 := Or.inl ⟨0, rfl, by decide +kernel, rfl⟩
theorem d_JInt_numberOfTrailingZeros_49 : zd_l .iload_n .iload b_JInt_numberOfTrailingZeros 49 0 50 := Or.inl ⟨0, rfl, by decide +kernel, rfl⟩
theorem d_JInt_numberOfTrailingZeros_50 : zd_k b_JInt_numberOfTrailingZeros "java/lang/Integer" 50 16 52 := Or.inr (Or.inl ⟨16, by decide +kernel, by decide, rfl⟩)
theorem d_JInt_numberOfTrailingZeros_52 : zd_b b_JInt_numberOfTrailingZeros 52 (.if_icmp .le) 55 62 := ⟨10, by decide +kernel, by decide, rfl⟩
theorem d_JInt_numberOfTrailingZeros_55 : zd_i b_JInt_numberOfTrailingZeros 55 1 4 4 58 := ⟨by decide +kernel, by decide, rfl⟩
theorem d_JInt_numberOfTrailingZeros_58 : zd_l .iload_n .iload b_JInt_numberOfTrailingZeros 58 0 59 := Or.inl ⟨0, rfl, by decide +kernel, rfl⟩
theorem d_JInt_numberOfTrailingZeros_59 : zd_k b_JInt_numberOfTrailingZeros "java/lang/Integer" 59 4 60 := Or.inl ⟨4, by decide +kernel, by decide, rfl⟩
theorem d_JInt_numberOfTrailingZeros_60 : zd b_JInt_numberOfTrailingZeros 60 .iushr 1 61 := ⟨by decide +kernel, rfl⟩
theorem d_JInt_numberOfTrailingZeros_61 : zd_l .istore_n .istore b_JInt_numberOfTrailingZeros 61 0 62 := Or.inl ⟨0, rfl, by decide +kernel, rfl⟩
theorem d_JInt_numberOfTrailingZeros_62 : zd_l .iload_n .iload b_JInt_numberOfTrailingZeros 62 0 63 := Or.inl ⟨0, rfl, by decide +kernel, rfl⟩
theorem d_JInt_numberOfTrailingZeros_63 : zd_k b_JInt_numberOfTrailingZeros "java/lang/Integer" 63 4 64 := Or.inl ⟨4, by decide +kernel, by decide, rfl⟩
theorem d_JInt_numberOfTrailingZeros_64 : zd_b b_JInt_numberOfTrailingZeros 64 (.if_icmp .le) 67 74 := ⟨10, by decide +kernel, by decide, rfl⟩
theorem d_JInt_numberOfTrailingZeros_67 : zd_i b_JInt_numberOfTrailingZeros 67 1 2 2 70 := ⟨by decide +kernel, by decide, rfl⟩
theorem d_JInt_numberOfTrailingZeros_70 : zd_l .iload_n .iload b_JInt_numberOfTrailingZeros 70 0 71 := Or.inl ⟨0, rfl, by decide +kernel, rfl⟩
theorem d_JInt_numberOfTrailingZeros_71 : zd_k b_JInt_numberOfTrailingZeros "java/lang/Integer" 71 2 72 := Or.inl ⟨2, by decide +kernel, by decide, rfl⟩
theorem d_JInt_numberOfTrailingZeros_72 : zd b_JInt_numberOfTrailingZeros 72 .iushr 1 73 := ⟨by decide +kernel, rfl⟩
theorem d_JInt_numberOfTrailingZeros_73 : zd_l .istore_n .istore b_JInt_numberOfTrailingZeros 73 0 74 := Or.inl ⟨0, rfl, by decide +kernel, rfl⟩
theorem d_JInt_numberOfTrailingZeros_74 : zd_l .iload_n .iload b_JInt_numberOfTrailingZeros 74 1 75 := Or.inl ⟨1, rfl, by decide +kernel, rfl⟩
theorem d_JInt_numberOfTrailingZeros_75 : zd_l .iload_n .iload b_JInt_numberOfTrailingZeros 75 0 76 := Or.inl ⟨0, rfl, by decide +kernel, rfl⟩
theorem d_JInt_numberOfTrailingZeros_76 : zd_k b_JInt_numberOfTrailingZeros "java/lang/Integer" 76 1 77 := Or.inl ⟨1, by decide +kernel, by decide, rfl⟩
theorem d_JInt_numberOfTrailingZeros_77 : zd b_JInt_numberOfTrailingZeros 77 .iushr 1 78 := ⟨by decide +kernel, rfl⟩
theorem d_JInt_numberOfTrailingZeros_78 : zd b_JInt_numberOfTrailingZeros 78 .iadd 1 79 := ⟨by decide +kernel, rfl⟩
theorem d_JInt_numberOfTrailingZeros_79 : zd b_JInt_numberOfTrailingZeros 79 .ireturn 1 80 := ⟨by decide +kernel, rfl⟩
theorem d_JInt_bitCount_0 : zd_l .iload_n .iload b_JInt_bitCount 0 0 1 := Or.inl ⟨0, rfl, by decide +kernel, rfl⟩
theorem d_JInt_bitCount_1 : zd_l .iload_n .iload b_JInt_bitCount 1 0 2 := Or.inl ⟨0, rfl, by decide +kernel, rfl⟩
theorem d_JInt_bitCount_2 : zd_k b_JInt_bitCount "java/lang/Integer" 2 1 3 := Or.inl ⟨1, by decide +kernel, by decide, rfl⟩
theorem d_JInt_bitCount_3 : zd b_JInt_bitCount 3 .iushr 1 4 := ⟨by decide +kernel, rfl⟩
set_option maxRecDepth 20000 in
theorem d_JInt_bitCount_4 : zd_k b_JInt_bitCount "java/lang/Integer" 4 1431655765 7 := Or.inr (Or.inr (Or.inr ⟨265, by decide +kernel, zb_mem 741 rfl rfl, rfl⟩))
theorem d_JInt_bitCount_7 : zd b_JInt_bitCount 7 .iand 1 8 := ⟨by decide +kernel, rfl⟩
theorem d_JInt_bitCount_8 : zd b_JInt_bitCount 8 .isub 1 9 := ⟨by decide +kernel, rfl⟩
theorem d_JInt_bitCount_9 : zd_l .istore_n .istore b_JInt_bitCount 9 0 10 := Or.inl ⟨0, rfl, by decide +kernel, rfl⟩
theorem d_JInt_bitCount_10 : zd_l .iload_n .iload b_JInt_bitCount 10 0 11 := Or.inl ⟨0, rfl, by decide +kernel, rfl⟩
set_option maxRecDepth 20000 in
theorem d_JInt_bitCount_11 : zd_k b_JInt_bitCount "java/lang/Integer" 11 858993459 14 := Or.inr (Or.inr (Or.inr ⟨266, by decide +kernel, zb_mem 742 rfl rfl, rfl⟩))
theorem d_JInt_bitCount_14 : zd b_JInt_bitCount 14 .iand 1 15 := ⟨by decide +kernel, rfl⟩
theorem d_JInt_bitCount_15 : zd_l .iload_n .iload b_JInt_bitCount 15 0 16 := Or.inl ⟨0, rfl, by decide +kernel, rfl⟩
theorem d_JInt_bitCount_16 : zd_k b_JInt_bitCount "java/lang/Integer" 16 2 17 := Or.inl ⟨2, by decide +kernel, by decide, rfl⟩
theorem d_JInt_bitCount_17 : zd b_JInt_bitCount 17 .iushr 1 18 := ⟨by decide +kernel, rfl⟩
set_option maxRecDepth 20000 in
theorem d_JInt_bitCount_18 : zd_k b_JInt_bitCount "java/lang/Integer" 18 858993459 21 := Or.inr (Or.inr (Or.inr ⟨266, by decide +kernel, zb_mem 742 rfl rfl, rfl⟩))
theorem d_JInt_bitCount_21 : zd b_JInt_bitCount 21 .iand 1 22 := ⟨by decide +kernel, rfl⟩
theorem d_JInt_bitCount_22 : zd b_JInt_bitCount 22 .iadd 1 23 := ⟨by decide +kernel, rfl⟩
theorem d_JInt_bitCount_23 : zd_l .istore_n .istore b_JInt_bitCount 23 0 24 := Or.inl ⟨0, rfl, by decide +kernel, rfl⟩
theorem d_JInt_bitCount_24 : zd_l .iload_n .iload b_JInt_bitCount 24 0 25 := Or.inl ⟨0, rfl, by decide +kernel, rfl⟩
theorem d_JInt_bitCount_25 : zd_l .iload_n .iload b_JInt_bitCount 25 0 26 := Or.inl ⟨0, rfl, by decide +kernel, rfl⟩
theorem d_JInt_bitCount_26 : zd_k b_JInt_bitCount "java/lang/Integer" 26 4 27 := Or.inl ⟨4, by decide +kernel, by decide, rfl⟩
theorem d_JInt_bitCount_27 : zd b_JInt_bitCount 27 .iushr 1 28 := ⟨by decide +kernel, rfl⟩
theorem d_JInt_bitCount_28 : zd b_JInt_bitCount 28 .iadd 1 29 := ⟨by decide +kernel, rfl⟩
set_option maxRecDepth 20000 in
theorem d_JInt_bitCount_29 : zd_k b_JInt_bitCount "java/lang/Integer" 29 252645135 32 := Or.inr (Or.inr (Or.inr ⟨267, by decide +kernel, zb_mem 743 rfl rfl, rfl⟩))
theorem d_JInt_bitCount_32 : zd b_JInt_bitCount 32 .iand 1 33 := ⟨by decide +kernel, rfl⟩
theorem d_JInt_bitCount_33 : zd_l .istore_n .istore b_JInt_bitCount 33 0 34 := Or.inl ⟨0, rfl, by decide +kernel, rfl⟩
theorem d_JInt_bitCount_34 : zd_l .iload_n .iload b_JInt_bitCount 34 0 35 := Or.inl ⟨0, rfl, by decide +kernel, rfl⟩
theorem d_JInt_bitCount_35 : zd_l .iload_n .iload b_JInt_bitCount 35 0 36 := Or.inl ⟨0, rfl, by decide +kernel, rfl⟩
theorem d_JInt_bitCount_36 : zd_k b_JInt_bitCount "java/lang/Integer" 36 8 38 := Or.inr (Or.inl ⟨8, by decide +kernel, by decide, rfl⟩)
theorem d_JInt_bitCount_38 : zd b_JInt_bitCount 38 .iushr 1 39 := ⟨by decide +kernel, rfl⟩
theorem d_JInt_bitCount_39 : zd b_JInt_bitCount 39 .iadd 1 40 := ⟨by decide +kernel, rfl⟩
theorem d_JInt_bitCount_40 : zd_l .istore_n .istore b_JInt_bitCount 40 0 41 := Or.inl ⟨0, rfl, by decide +kernel, rfl⟩
theorem d_JInt_bitCount_41 : zd_l .iload_n .iload b_JInt_bitCount 41 0 42 := Or.inl ⟨0, rfl, by decide +kernel, rfl⟩
theorem d_JInt_bitCount_42 : zd_l .iload_n .iload b_JInt_bitCount 42 0 43 := Or.inl ⟨0, rfl, by decide +kernel, rfl⟩
theorem d_JInt_bitCount_43 : zd_k b_JInt_bitCount "java/lang/Integer" 43 16 45 := Or.inr (Or.inl ⟨16, by decide +kernel, by decide, rfl⟩)
theorem d_JInt_bitCount_45 : zd b_JInt_bitCount 45 .iushr 1 46 := ⟨by decide +kernel, rfl⟩
theorem d_JInt_bitCount_46 : zd b_JInt_bitCount 46 .iadd 1 47 := ⟨by decide +kernel, rfl⟩
theorem d_JInt_bitCount_47 : zd_l .istore_n .istore b_JInt_bitCount 47 0 48 := Or.inl ⟨0, rfl, by decide +kernel, rfl⟩
theorem d_JInt_bitCount_48 : zd_l .iload_n .iload b_JInt_bitCount 48 0 49 := Or.inl ⟨0, rfl, by decide +kernel, rfl⟩
theorem d_JInt_bitCount_49 : zd_k b_JInt_bitCount "java/lang/Integer" 49 63 51 := Or.inr (Or.inl ⟨63, by decide +kernel, by decide, rfl⟩)
theorem d_JInt_bitCount_51 : zd b_JInt_bitCount 51 .iand 1 52 := ⟨by decide +kernel, rfl⟩
theorem d_JInt_bitCount_52 : zd b_JInt_bitCount 52 .ireturn 1 53 := ⟨by decide +kernel, rfl⟩
set_option maxRecDepth 20000 in
theorem l_JLong_311 : zl_S "java/lang/Long" 311 y_JInt_numberOfTrailingZeros b_JInt_numberOfTrailingZeros 2 (some .int) 1 := ⟨⟨zb_mem 604 rfl rfl, zb_mem 65 rfl rfl, zb_mem 606 rfl rfl, by decide, by decide +kernel⟩, zb_mem 605 rfl rfl⟩
theorem d_JLong_numberOfTrailingZeros_0 : zd_l .lload_n .lload b_JLong_numberOfTrailingZeros 0 0 1 := Or.inl ⟨0, rfl, by decide +kernel, rfl⟩
theorem d_JLong_numberOfTrailingZeros_1 : zd b_JLong_numberOfTrailingZeros 1 .l2i 1 2 := ⟨by decide +kernel, rfl⟩
theorem d_JLong_numberOfTrailingZeros_2 : zd_l .istore_n .istore b_JLong_numberOfTrailingZeros 2 2 3 := Or.inl ⟨2, rfl, by decide +kernel, rfl⟩
theorem d_JLong_numberOfTrailingZeros_3 : zd_l .iload_n .iload b_JLong_numberOfTrailingZeros 3 2 4 := Or.inl ⟨2, rfl, by decide +kernel, rfl⟩
theorem d_JLong_numberOfTrailingZeros_4 : zd_b b_JLong_numberOfTrailingZeros 4 (.ifCond .ne) 7 21 := ⟨17, by decide +kernel, by decide, rfl⟩
theorem d_JLong_numberOfTrailingZeros_7 : zd_k b_JLong_numberOfTrailingZeros "java/lang/Long" 7 32 9 := Or.inr (Or.inl ⟨32, by decide +kernel, by decide, rfl⟩)
theorem d_JLong_numberOfTrailingZeros_9 : zd_l .lload_n .lload b_JLong_numberOfTrailingZeros 9 0 10 := Or.inl ⟨0, rfl, by decide +kernel, rfl⟩
theorem d_JLong_numberOfTrailingZeros_10 : zd_k b_JLong_numberOfTrailingZeros "java/lang/Long" 10 32 12 := Or.inr (Or.inl ⟨32, by decide +kernel, by decide, rfl⟩)
theorem d_JLong_numberOfTrailingZeros_12 : zd b_JLong_numberOfTrailingZeros 12 .lushr 1 13 := ⟨by decide +kernel, rfl⟩
theorem d_JLong_numberOfTrailingZeros_13 : zd b_JLong_numberOfTrailingZeros 13 .l2i 1 14 := ⟨by decide +kernel, rfl⟩
theorem d_JLong_numberOfTrailingZeros_14 : zd b_JLong_numberOfTrailingZeros 14 (.invokestatic 311) 3 17 := ⟨by decide +kernel, rfl⟩
theorem d_JLong_numberOfTrailingZeros_17 : zd b_JLong_numberOfTrailingZeros 17 .iadd 1 18 := ⟨by decide +kernel, rfl⟩
theorem d_JLong_numberOfTrailingZeros_18 : zd_b b_JLong_numberOfTrailingZeros 18 .goto 21 25 := ⟨7, by decide +kernel, by decide, rfl⟩
theorem d_JLong_numberOfTrailingZeros_21 : zd_l .iload_n .iload b_JLong_numberOfTrailingZeros 21 2 22 := Or.inl ⟨2, rfl, by decide +kernel, rfl⟩
theorem d_JLong_numberOfTrailingZeros_22 : zd b_JLong_numberOfTrailingZeros 22 (.invokestatic 311) 3 25 := ⟨by decide +kernel, rfl⟩
theorem d_JLong_numberOfTrailingZeros_25 : zd b_JLong_numberOfTrailingZeros 25 .ireturn 1 26 := ⟨by decide +kernel, rfl⟩
theorem d_JLong_bitCount_0 : zd_l .lload_n .lload b_JLong_bitCount 0 0 1 := Or.inl ⟨0, rfl, by decide +kernel, rfl⟩
theorem d_JLong_bitCount_1 : zd_l .lload_n .lload b_JLong_bitCount 1 0 2 := Or.inl ⟨0, rfl, by decide +kernel, rfl⟩
theorem d_JLong_bitCount_2 : zd_k b_JLong_bitCount "java/lang/Long" 2 1 3 := Or.inl ⟨1, by decide +kernel, by decide, rfl⟩
theorem d_JLong_bitCount_3 : zd b_JLong_bitCount 3 .lushr 1 4 := ⟨by decide +kernel, rfl⟩
set_option maxRecDepth 20000 in
theorem d_JLong_bitCount_4 : zd_kl b_JLong_bitCount "java/lang/Long" 4 6148914691236517205 7 := Or.inr ⟨314, by decide +kernel, zb_mem 721 rfl rfl, rfl⟩
theorem d_JLong_bitCount_7 : zd b_JLong_bitCount 7 .land 1 8 := ⟨by decide +kernel, rfl⟩
theorem d_JLong_bitCount_8 : zd b_JLong_bitCount 8 .lsub 1 9 := ⟨by decide +kernel, rfl⟩
theorem d_JLong_bitCount_9 : zd_l .lstore_n .lstore b_JLong_bitCount 9 0 10 := Or.inl ⟨0, rfl, by decide +kernel, rfl⟩
theorem d_JLong_bitCount_10 : zd_l .lload_n .lload b_JLong_bitCount 10 0 11 := Or.inl ⟨0, rfl, by decide +kernel, rfl⟩
set_option maxRecDepth 20000 in
theorem d_JLong_bitCount_11 : zd_kl b_JLong_bitCount "java/lang/Long" 11 3689348814741910323 14 := Or.inr ⟨316, by decide +kernel, zb_mem 722 rfl rfl, rfl⟩
theorem d_JLong_bitCount_14 : zd b_JLong_bitCount 14 .land 1 15 := ⟨by decide +kernel, rfl⟩
theorem d_JLong_bitCount_15 : zd_l .lload_n .lload b_JLong_bitCount 15 0 16 := Or.inl ⟨0, rfl, by decide +kernel, rfl⟩
theorem d_JLong_bitCount_16 : zd_k b_JLong_bitCount "java/lang/Long" 16 2 17 := Or.inl ⟨2, by decide +kernel, by decide, rfl⟩
theorem d_JLong_bitCount_17 : zd b_JLong_bitCount 17 .lushr 1 18 := ⟨by decide +kernel, rfl⟩
set_option maxRecDepth 20000 in
theorem d_JLong_bitCount_18 : zd_kl b_JLong_bitCount "java/lang/Long" 18 3689348814741910323 21 := Or.inr ⟨316, by decide +kernel, zb_mem 722 rfl rfl, rfl⟩
theorem d_JLong_bitCount_21 : zd b_JLong_bitCount 21 .land 1 22 := ⟨by decide +kernel, rfl⟩
theorem d_JLong_bitCount_22 : zd b_JLong_bitCount 22 .ladd 1 23 := ⟨by decide +kernel, rfl⟩
theorem d_JLong_bitCount_23 : zd_l .lstore_n .lstore b_JLong_bitCount 23 0 24 := Or.inl ⟨0, rfl, by decide +kernel, rfl⟩
theorem d_JLong_bitCount_24 : zd_l .lload_n .lload b_JLong_bitCount 24 0 25 := Or.inl ⟨0, rfl, by decide +kernel, rfl⟩
theorem d_JLong_bitCount_25 : zd_l .lload_n .lload b_JLong_bitCount 25 0 26 := Or.inl ⟨0, rfl, by decide +kernel, rfl⟩
theorem d_JLong_bitCount_26 : zd_k b_JLong_bitCount "java/lang/Long" 26 4 27 := Or.inl ⟨4, by decide +kernel, by decide, rfl⟩
theorem d_JLong_bitCount_27 : zd b_JLong_bitCount 27 .lushr 1 28 := ⟨by decide +kernel, rfl⟩
theorem d_JLong_bitCount_28 : zd b_JLong_bitCount 28 .ladd 1 29 := ⟨by decide +kernel, rfl⟩
set_option maxRecDepth 20000 in
theorem d_JLong_bitCount_29 : zd_kl b_JLong_bitCount "java/lang/Long" 29 1085102592571150095 32 := Or.inr ⟨318, by decide +kernel, zb_mem 723 rfl rfl, rfl⟩
theorem d_JLong_bitCount_32 : zd b_JLong_bitCount 32 .land 1 33 := ⟨by decide +kernel, rfl⟩
theorem d_JLong_bitCount_33 : zd_l .lstore_n .lstore b_JLong_bitCount 33 0 34 := Or.inl ⟨0, rfl, by decide +kernel, rfl⟩
theorem d_JLong_bitCount_34 : zd_l .lload_n .lload b_JLong_bitCount 34 0 35 := Or.inl ⟨0, rfl, by decide +kernel, rfl⟩
theorem d_JLong_bitCount_35 : zd_l .lload_n .lload b_JLong_bitCount 35 0 36 := Or.inl ⟨0, rfl, by decide +kernel, rfl⟩
theorem d_JLong_bitCount_36 : zd_k b_JLong_bitCount "java/lang/Long" 36 8 38 := Or.inr (Or.inl ⟨8, by decide +kernel, by decide, rfl⟩)
theorem d_JLong_bitCount_38 : zd b_JLong_bitCount 38 .lushr 1 39 := ⟨by decide +kernel, rfl⟩
theorem d_JLong_bitCount_39 : zd b_JLong_bitCount 39 .ladd 1 40 := ⟨by decide +kernel, rfl⟩
theorem d_JLong_bitCount_40 : zd_l .lstore_n .lstore b_JLong_bitCount 40 0 41 := Or.inl ⟨0, rfl, by decide +kernel, rfl⟩
theorem d_JLong_bitCount_41 : zd_l .lload_n .lload b_JLong_bitCount 41 0 42 := Or.inl ⟨0, rfl, by decide +kernel, rfl⟩
theorem d_JLong_bitCount_42 : zd_l .lload_n .lload b_JLong_bitCount 42 0 43 := Or.inl ⟨0, rfl, by decide +kernel, rfl⟩
theorem d_JLong_bitCount_43 : zd_k b_JLong_bitCount "java/lang/Long" 43 16 45 := Or.inr (Or.inl ⟨16, by decide +kernel, by decide, rfl⟩)
theorem d_JLong_bitCount_45 : zd b_JLong_bitCount 45 .lushr 1 46 := ⟨by decide +kernel, rfl⟩
theorem d_JLong_bitCount_46 : zd b_JLong_bitCount 46 .ladd 1 47 := ⟨by decide +kernel, rfl⟩
theorem d_JLong_bitCount_47 : zd_l .lstore_n .lstore b_JLong_bitCount 47 0 48 := Or.inl ⟨0, rfl, by decide +kernel, rfl⟩
theorem d_JLong_bitCount_48 : zd_l .lload_n .lload b_JLong_bitCount 48 0 49 := Or.inl ⟨0, rfl, by decide +kernel, rfl⟩
theorem d_JLong_bitCount_49 : zd_l .lload_n .lload b_JLong_bitCount 49 0 50 := Or.inl ⟨0, rfl, by decide +kernel, rfl⟩
theorem d_JLong_bitCount_50 : zd_k b_JLong_bitCount "java/lang/Long" 50 32 52 := Or.inr (Or.inl ⟨32, by decide +kernel, by decide, rfl⟩)
theorem d_JLong_bitCount_52 : zd b_JLong_bitCount 52 .lushr 1 53 := ⟨by decide +kernel, rfl⟩
theorem d_JLong_bitCount_53 : zd b_JLong_bitCount 53 .ladd 1 54 := ⟨by decide +kernel, rfl⟩
theorem d_JLong_bitCount_54 : zd_l .lstore_n .lstore b_JLong_bitCount 54 0 55 := Or.inl ⟨0, rfl, by decide +kernel, rfl⟩
theorem d_JLong_bitCount_55 : zd_l .lload_n .lload b_JLong_bitCount 55 0 56 := Or.inl ⟨0, rfl, by decide +kernel, rfl⟩
theorem d_JLong_bitCount_56 : zd b_JLong_bitCount 56 .l2i 1 57 := ⟨by decide +kernel, rfl⟩
theorem d_JLong_bitCount_57 : zd_k b_JLong_bitCount "java/lang/Long" 57 127 59 := Or.inr (Or.inl ⟨127, by decide +kernel, by decide, rfl⟩)
theorem d_JLong_bitCount_59 : zd b_JLong_bitCount 59 .iand 1 60 := ⟨by decide +kernel, rfl⟩
theorem d_JLong_bitCount_60 : zd b_JLong_bitCount 60 .ireturn 1 61 := ⟨by decide +kernel, rfl⟩
end
section
set_option maxRecDepth 20000 in
theorem f_Mod_9_12 : zb_FL "SameTuesdayModel" 9 12 2 := ⟨"SameTuesdayModel", zF_Mod, 34, "SameTuesdayModel", rfl, by decide, zi_Mod, zb_mem 907 rfl rfl, Or.inl rfl⟩
set_option maxRecDepth 20000 in
theorem p_Mod_9_12 : zb_PF "SameTuesdayModel" 9 12 2 (.array .int) := ⟨"SameTuesdayModel", zF_Mod, 34, "SameTuesdayModel", zt_Mod, rfl, by decide, zi_Mod, zb_mem 907 rfl rfl, Or.inl rfl, zk_Mod, zn_Mod, rfl, rfl, rfl⟩
set_option maxRecDepth 20000 in
theorem f_Mod_13_12 : zb_FL "SameTuesdayModel" 13 12 3 := ⟨"SameTuesdayModel", zF_Mod, 34, "SameTuesdayModel", rfl, by decide, zi_Mod, zb_mem 908 rfl rfl, Or.inl rfl⟩
set_option maxRecDepth 20000 in
theorem p_Mod_13_12 : zb_PF "SameTuesdayModel" 13 12 3 (.array .int) := ⟨"SameTuesdayModel", zF_Mod, 34, "SameTuesdayModel", zt_Mod, rfl, by decide, zi_Mod, zb_mem 908 rfl rfl, Or.inl rfl, zk_Mod, zn_Mod, rfl, rfl, rfl⟩
set_option maxRecDepth 20000 in
theorem f_Mod_16_12 : zb_FL "SameTuesdayModel" 16 12 4 := ⟨"SameTuesdayModel", zF_Mod, 34, "SameTuesdayModel", rfl, by decide, zi_Mod, zb_mem 909 rfl rfl, Or.inl rfl⟩
set_option maxRecDepth 20000 in
theorem p_Mod_16_12 : zb_PF "SameTuesdayModel" 16 12 4 (.array .int) := ⟨"SameTuesdayModel", zF_Mod, 34, "SameTuesdayModel", zt_Mod, rfl, by decide, zi_Mod, zb_mem 909 rfl rfl, Or.inl rfl, zk_Mod, zn_Mod, rfl, rfl, rfl⟩
set_option maxRecDepth 20000 in
theorem f_Mod_19_12 : zb_FL "SameTuesdayModel" 19 12 8 := ⟨"SameTuesdayModel", zF_Mod, 34, "SameTuesdayModel", rfl, by decide, zi_Mod, zb_mem 913 rfl rfl, Or.inl rfl⟩
set_option maxRecDepth 20000 in
theorem p_Mod_19_12 : zb_PF "SameTuesdayModel" 19 12 8 (.array .int) := ⟨"SameTuesdayModel", zF_Mod, 34, "SameTuesdayModel", zt_Mod, rfl, by decide, zi_Mod, zb_mem 913 rfl rfl, Or.inl rfl, zk_Mod, zn_Mod, rfl, rfl, rfl⟩
set_option maxRecDepth 20000 in
theorem f_Mod_22_12 : zb_FL "SameTuesdayModel" 22 12 9 := ⟨"SameTuesdayModel", zF_Mod, 34, "SameTuesdayModel", rfl, by decide, zi_Mod, zb_mem 914 rfl rfl, Or.inl rfl⟩
set_option maxRecDepth 20000 in
theorem p_Mod_22_12 : zb_PF "SameTuesdayModel" 22 12 9 (.array .int) := ⟨"SameTuesdayModel", zF_Mod, 34, "SameTuesdayModel", zt_Mod, rfl, by decide, zi_Mod, zb_mem 914 rfl rfl, Or.inl rfl, zk_Mod, zn_Mod, rfl, rfl, rfl⟩
set_option maxRecDepth 20000 in
theorem f_Mod_25_12 : zb_FL "SameTuesdayModel" 25 12 10 := ⟨"SameTuesdayModel", zF_Mod, 34, "SameTuesdayModel", rfl, by decide, zi_Mod, zb_mem 915 rfl rfl, Or.inl rfl⟩
set_option maxRecDepth 20000 in
theorem p_Mod_25_12 : zb_PF "SameTuesdayModel" 25 12 10 (.array .int) := ⟨"SameTuesdayModel", zF_Mod, 34, "SameTuesdayModel", zt_Mod, rfl, by decide, zi_Mod, zb_mem 915 rfl rfl, Or.inl rfl, zk_Mod, zn_Mod, rfl, rfl, rfl⟩
set_option maxRecDepth 20000 in
theorem f_Mod_28_12 : zb_FL "SameTuesdayModel" 28 12 11 := ⟨"SameTuesdayModel", zF_Mod, 34, "SameTuesdayModel", rfl, by decide, zi_Mod, zb_mem 916 rfl rfl, Or.inl rfl⟩
set_option maxRecDepth 20000 in
theorem p_Mod_28_12 : zb_PF "SameTuesdayModel" 28 12 11 (.array .int) := ⟨"SameTuesdayModel", zF_Mod, 34, "SameTuesdayModel", zt_Mod, rfl, by decide, zi_Mod, zb_mem 916 rfl rfl, Or.inl rfl, zk_Mod, zn_Mod, rfl, rfl, rfl⟩
set_option maxRecDepth 20000 in
theorem f_Mod_31_12 : zb_FL "SameTuesdayModel" 31 12 12 := ⟨"SameTuesdayModel", zF_Mod, 34, "SameTuesdayModel", rfl, by decide, zi_Mod, zb_mem 917 rfl rfl, Or.inl rfl⟩
set_option maxRecDepth 20000 in
theorem p_Mod_31_12 : zb_PF "SameTuesdayModel" 31 12 12 (.array .int) := ⟨"SameTuesdayModel", zF_Mod, 34, "SameTuesdayModel", zt_Mod, rfl, by decide, zi_Mod, zb_mem 917 rfl rfl, Or.inl rfl, zk_Mod, zn_Mod, rfl, rfl, rfl⟩
set_option maxRecDepth 20000 in
theorem f_Mod_34_12 : zb_FL "SameTuesdayModel" 34 12 13 := ⟨"SameTuesdayModel", zF_Mod, 34, "SameTuesdayModel", rfl, by decide, zi_Mod, zb_mem 918 rfl rfl, Or.inl rfl⟩
set_option maxRecDepth 20000 in
theorem p_Mod_34_12 : zb_PF "SameTuesdayModel" 34 12 13 (.array .int) := ⟨"SameTuesdayModel", zF_Mod, 34, "SameTuesdayModel", zt_Mod, rfl, by decide, zi_Mod, zb_mem 918 rfl rfl, Or.inl rfl, zk_Mod, zn_Mod, rfl, rfl, rfl⟩
set_option maxRecDepth 20000 in
theorem f_Mod_37_12 : zb_FL "SameTuesdayModel" 37 12 14 := ⟨"SameTuesdayModel", zF_Mod, 34, "SameTuesdayModel", rfl, by decide, zi_Mod, zb_mem 919 rfl rfl, Or.inl rfl⟩
set_option maxRecDepth 20000 in
theorem p_Mod_37_12 : zb_PF "SameTuesdayModel" 37 12 14 (.array .int) := ⟨"SameTuesdayModel", zF_Mod, 34, "SameTuesdayModel", zt_Mod, rfl, by decide, zi_Mod, zb_mem 919 rfl rfl, Or.inl rfl, zk_Mod, zn_Mod, rfl, rfl, rfl⟩
set_option maxRecDepth 20000 in
theorem f_Mod_40_12 : zb_FL "SameTuesdayModel" 40 12 15 := ⟨"SameTuesdayModel", zF_Mod, 34, "SameTuesdayModel", rfl, by decide, zi_Mod, zb_mem 920 rfl rfl, Or.inl rfl⟩
set_option maxRecDepth 20000 in
theorem p_Mod_40_12 : zb_PF "SameTuesdayModel" 40 12 15 (.array .int) := ⟨"SameTuesdayModel", zF_Mod, 34, "SameTuesdayModel", zt_Mod, rfl, by decide, zi_Mod, zb_mem 920 rfl rfl, Or.inl rfl, zk_Mod, zn_Mod, rfl, rfl, rfl⟩
set_option maxRecDepth 20000 in
theorem f_Mod_43_12 : zb_FL "SameTuesdayModel" 43 12 19 := ⟨"SameTuesdayModel", zF_Mod, 34, "SameTuesdayModel", rfl, by decide, zi_Mod, zb_mem 924 rfl rfl, Or.inl rfl⟩
set_option maxRecDepth 20000 in
theorem p_Mod_43_12 : zb_PF "SameTuesdayModel" 43 12 19 (.array .int) := ⟨"SameTuesdayModel", zF_Mod, 34, "SameTuesdayModel", zt_Mod, rfl, by decide, zi_Mod, zb_mem 924 rfl rfl, Or.inl rfl, zk_Mod, zn_Mod, rfl, rfl, rfl⟩
set_option maxRecDepth 20000 in
theorem f_Mod_46_12 : zb_FL "SameTuesdayModel" 46 12 20 := ⟨"SameTuesdayModel", zF_Mod, 34, "SameTuesdayModel", rfl, by decide, zi_Mod, zb_mem 925 rfl rfl, Or.inl rfl⟩
set_option maxRecDepth 20000 in
theorem p_Mod_46_12 : zb_PF "SameTuesdayModel" 46 12 20 (.array .int) := ⟨"SameTuesdayModel", zF_Mod, 34, "SameTuesdayModel", zt_Mod, rfl, by decide, zi_Mod, zb_mem 925 rfl rfl, Or.inl rfl, zk_Mod, zn_Mod, rfl, rfl, rfl⟩
set_option maxRecDepth 20000 in
theorem f_Mod_49_12 : zb_FL "SameTuesdayModel" 49 12 22 := ⟨"SameTuesdayModel", zF_Mod, 34, "SameTuesdayModel", rfl, by decide, zi_Mod, zb_mem 927 rfl rfl, Or.inl rfl⟩
set_option maxRecDepth 20000 in
theorem p_Mod_49_12 : zb_PF "SameTuesdayModel" 49 12 22 (.array .int) := ⟨"SameTuesdayModel", zF_Mod, 34, "SameTuesdayModel", zt_Mod, rfl, by decide, zi_Mod, zb_mem 927 rfl rfl, Or.inl rfl, zk_Mod, zn_Mod, rfl, rfl, rfl⟩
set_option maxRecDepth 20000 in
theorem f_Mod_52_12 : zb_FL "SameTuesdayModel" 52 12 23 := ⟨"SameTuesdayModel", zF_Mod, 34, "SameTuesdayModel", rfl, by decide, zi_Mod, zb_mem 928 rfl rfl, Or.inl rfl⟩
set_option maxRecDepth 20000 in
theorem p_Mod_52_12 : zb_PF "SameTuesdayModel" 52 12 23 (.array .int) := ⟨"SameTuesdayModel", zF_Mod, 34, "SameTuesdayModel", zt_Mod, rfl, by decide, zi_Mod, zb_mem 928 rfl rfl, Or.inl rfl, zk_Mod, zn_Mod, rfl, rfl, rfl⟩
set_option maxRecDepth 20000 in
theorem f_Mod_55_12 : zb_FL "SameTuesdayModel" 55 12 24 := ⟨"SameTuesdayModel", zF_Mod, 34, "SameTuesdayModel", rfl, by decide, zi_Mod, zb_mem 929 rfl rfl, Or.inl rfl⟩
set_option maxRecDepth 20000 in
theorem p_Mod_55_12 : zb_PF "SameTuesdayModel" 55 12 24 (.array .boolean) := ⟨"SameTuesdayModel", zF_Mod, 34, "SameTuesdayModel", zt_Mod, rfl, by decide, zi_Mod, zb_mem 929 rfl rfl, Or.inl rfl, zk_Mod, zn_Mod, rfl, rfl, rfl⟩
set_option maxRecDepth 20000 in
theorem f_Mod_59_12 : zb_FL "SameTuesdayModel" 59 12 25 := ⟨"SameTuesdayModel", zF_Mod, 34, "SameTuesdayModel", rfl, by decide, zi_Mod, zb_mem 930 rfl rfl, Or.inl rfl⟩
set_option maxRecDepth 20000 in
theorem p_Mod_59_12 : zb_PL "SameTuesdayModel" 59 12 25 .int := ⟨"SameTuesdayModel", zF_Mod, 34, "SameTuesdayModel", zt_Mod, rfl, by decide, zi_Mod, zb_mem 930 rfl rfl, Or.inl rfl, zk_Mod, zn_Mod, rfl, rfl⟩
set_option maxRecDepth 20000 in
theorem f_Mod_63_12 : zb_FL "SameTuesdayModel" 63 12 28 := ⟨"SameTuesdayModel", zF_Mod, 34, "SameTuesdayModel", rfl, by decide, zi_Mod, zb_mem 933 rfl rfl, Or.inl rfl⟩
set_option maxRecDepth 20000 in
theorem p_Mod_63_12 : zb_PF "SameTuesdayModel" 63 12 28 (.array .boolean) := ⟨"SameTuesdayModel", zF_Mod, 34, "SameTuesdayModel", zt_Mod, rfl, by decide, zi_Mod, zb_mem 933 rfl rfl, Or.inl rfl, zk_Mod, zn_Mod, rfl, rfl, rfl⟩
set_option maxRecDepth 20000 in
theorem f_Mod_66_12 : zb_FL "SameTuesdayModel" 66 12 29 := ⟨"SameTuesdayModel", zF_Mod, 34, "SameTuesdayModel", rfl, by decide, zi_Mod, zb_mem 934 rfl rfl, Or.inl rfl⟩
set_option maxRecDepth 20000 in
theorem p_Mod_66_12 : zb_PF "SameTuesdayModel" 66 12 29 (.array .boolean) := ⟨"SameTuesdayModel", zF_Mod, 34, "SameTuesdayModel", zt_Mod, rfl, by decide, zi_Mod, zb_mem 934 rfl rfl, Or.inl rfl, zk_Mod, zn_Mod, rfl, rfl, rfl⟩
set_option maxRecDepth 20000 in
theorem f_Mod_69_12 : zb_FL "SameTuesdayModel" 69 12 30 := ⟨"SameTuesdayModel", zF_Mod, 34, "SameTuesdayModel", rfl, by decide, zi_Mod, zb_mem 935 rfl rfl, Or.inl rfl⟩
set_option maxRecDepth 20000 in
theorem p_Mod_69_12 : zb_PF "SameTuesdayModel" 69 12 30 (.array .boolean) := ⟨"SameTuesdayModel", zF_Mod, 34, "SameTuesdayModel", zt_Mod, rfl, by decide, zi_Mod, zb_mem 935 rfl rfl, Or.inl rfl, zk_Mod, zn_Mod, rfl, rfl, rfl⟩
set_option maxRecDepth 20000 in
theorem f_Mod_72_12 : zb_FL "SameTuesdayModel" 72 12 31 := ⟨"SameTuesdayModel", zF_Mod, 34, "SameTuesdayModel", rfl, by decide, zi_Mod, zb_mem 936 rfl rfl, Or.inl rfl⟩
set_option maxRecDepth 20000 in
theorem p_Mod_72_12 : zb_PF "SameTuesdayModel" 72 12 31 (.array .boolean) := ⟨"SameTuesdayModel", zF_Mod, 34, "SameTuesdayModel", zt_Mod, rfl, by decide, zi_Mod, zb_mem 936 rfl rfl, Or.inl rfl, zk_Mod, zn_Mod, rfl, rfl, rfl⟩
set_option maxRecDepth 20000 in
theorem f_Mod_75_12 : zb_FL "SameTuesdayModel" 75 12 33 := ⟨"SameTuesdayModel", zF_Mod, 34, "SameTuesdayModel", rfl, by decide, zi_Mod, zb_mem 938 rfl rfl, Or.inl rfl⟩
set_option maxRecDepth 20000 in
theorem p_Mod_75_12 : zb_PF "SameTuesdayModel" 75 12 33 (.array .int) := ⟨"SameTuesdayModel", zF_Mod, 34, "SameTuesdayModel", zt_Mod, rfl, by decide, zi_Mod, zb_mem 938 rfl rfl, Or.inl rfl, zk_Mod, zn_Mod, rfl, rfl, rfl⟩
set_option maxRecDepth 20000 in
theorem f_Mod_78_12 : zb_FL "SameTuesdayModel" 78 12 0 := ⟨"SameTuesdayModel", zF_Mod, 34, "SameTuesdayModel", rfl, by decide, zi_Mod, zb_mem 905 rfl rfl, Or.inl rfl⟩
set_option maxRecDepth 20000 in
theorem p_Mod_78_12 : zb_PL "SameTuesdayModel" 78 12 0 .int := ⟨"SameTuesdayModel", zF_Mod, 34, "SameTuesdayModel", zt_Mod, rfl, by decide, zi_Mod, zb_mem 905 rfl rfl, Or.inl rfl, zk_Mod, zn_Mod, rfl, rfl⟩
set_option maxRecDepth 20000 in
theorem f_Mod_87_12 : zb_FL "SameTuesdayModel" 87 12 5 := ⟨"SameTuesdayModel", zF_Mod, 34, "SameTuesdayModel", rfl, by decide, zi_Mod, zb_mem 910 rfl rfl, Or.inl rfl⟩
set_option maxRecDepth 20000 in
theorem p_Mod_87_12 : zb_PL "SameTuesdayModel" 87 12 5 .int := ⟨"SameTuesdayModel", zF_Mod, 34, "SameTuesdayModel", zt_Mod, rfl, by decide, zi_Mod, zb_mem 910 rfl rfl, Or.inl rfl, zk_Mod, zn_Mod, rfl, rfl⟩
set_option maxRecDepth 20000 in
theorem f_Mod_90_12 : zb_FL "SameTuesdayModel" 90 12 6 := ⟨"SameTuesdayModel", zF_Mod, 34, "SameTuesdayModel", rfl, by decide, zi_Mod, zb_mem 911 rfl rfl, Or.inl rfl⟩
set_option maxRecDepth 20000 in
theorem p_Mod_90_12 : zb_PL "SameTuesdayModel" 90 12 6 .int := ⟨"SameTuesdayModel", zF_Mod, 34, "SameTuesdayModel", zt_Mod, rfl, by decide, zi_Mod, zb_mem 911 rfl rfl, Or.inl rfl, zk_Mod, zn_Mod, rfl, rfl⟩
set_option maxRecDepth 20000 in
theorem f_Mod_93_12 : zb_FL "SameTuesdayModel" 93 12 16 := ⟨"SameTuesdayModel", zF_Mod, 34, "SameTuesdayModel", rfl, by decide, zi_Mod, zb_mem 921 rfl rfl, Or.inl rfl⟩
set_option maxRecDepth 20000 in
theorem p_Mod_93_12 : zb_PL "SameTuesdayModel" 93 12 16 .int := ⟨"SameTuesdayModel", zF_Mod, 34, "SameTuesdayModel", zt_Mod, rfl, by decide, zi_Mod, zb_mem 921 rfl rfl, Or.inl rfl, zk_Mod, zn_Mod, rfl, rfl⟩
set_option maxRecDepth 20000 in
theorem f_Mod_114_12 : zb_FL "SameTuesdayModel" 114 12 17 := ⟨"SameTuesdayModel", zF_Mod, 34, "SameTuesdayModel", rfl, by decide, zi_Mod, zb_mem 922 rfl rfl, Or.inl rfl⟩
set_option maxRecDepth 20000 in
theorem p_Mod_114_12 : zb_PL "SameTuesdayModel" 114 12 17 .int := ⟨"SameTuesdayModel", zF_Mod, 34, "SameTuesdayModel", zt_Mod, rfl, by decide, zi_Mod, zb_mem 922 rfl rfl, Or.inl rfl, zk_Mod, zn_Mod, rfl, rfl⟩
set_option maxRecDepth 20000 in
theorem f_Mod_117_12 : zb_FL "SameTuesdayModel" 117 12 18 := ⟨"SameTuesdayModel", zF_Mod, 34, "SameTuesdayModel", rfl, by decide, zi_Mod, zb_mem 923 rfl rfl, Or.inl rfl⟩
set_option maxRecDepth 20000 in
theorem p_Mod_117_12 : zb_PL "SameTuesdayModel" 117 12 18 .int := ⟨"SameTuesdayModel", zF_Mod, 34, "SameTuesdayModel", zt_Mod, rfl, by decide, zi_Mod, zb_mem 923 rfl rfl, Or.inl rfl, zk_Mod, zn_Mod, rfl, rfl⟩
set_option maxRecDepth 20000 in
theorem f_Mod_120_12 : zb_FL "SameTuesdayModel" 120 12 7 := ⟨"SameTuesdayModel", zF_Mod, 34, "SameTuesdayModel", rfl, by decide, zi_Mod, zb_mem 912 rfl rfl, Or.inl rfl⟩
set_option maxRecDepth 20000 in
theorem p_Mod_120_12 : zb_PL "SameTuesdayModel" 120 12 7 .int := ⟨"SameTuesdayModel", zF_Mod, 34, "SameTuesdayModel", zt_Mod, rfl, by decide, zi_Mod, zb_mem 912 rfl rfl, Or.inl rfl, zk_Mod, zn_Mod, rfl, rfl⟩
set_option maxRecDepth 20000 in
theorem f_Mod_123_12 : zb_FL "SameTuesdayModel" 123 12 32 := ⟨"SameTuesdayModel", zF_Mod, 34, "SameTuesdayModel", rfl, by decide, zi_Mod, zb_mem 937 rfl rfl, Or.inl rfl⟩
set_option maxRecDepth 20000 in
theorem p_Mod_123_12 : zb_PL "SameTuesdayModel" 123 12 32 .int := ⟨"SameTuesdayModel", zF_Mod, 34, "SameTuesdayModel", zt_Mod, rfl, by decide, zi_Mod, zb_mem 937 rfl rfl, Or.inl rfl, zk_Mod, zn_Mod, rfl, rfl⟩
set_option maxRecDepth 20000 in
theorem f_Mod_149_12 : zb_FL "SameTuesdayModel" 149 12 21 := ⟨"SameTuesdayModel", zF_Mod, 34, "SameTuesdayModel", rfl, by decide, zi_Mod, zb_mem 926 rfl rfl, Or.inl rfl⟩
set_option maxRecDepth 20000 in
theorem p_Mod_149_12 : zb_PL "SameTuesdayModel" 149 12 21 .int := ⟨"SameTuesdayModel", zF_Mod, 34, "SameTuesdayModel", zt_Mod, rfl, by decide, zi_Mod, zb_mem 926 rfl rfl, Or.inl rfl, zk_Mod, zn_Mod, rfl, rfl⟩
set_option maxRecDepth 20000 in
theorem f_Mod_152_12 : zb_FL "SameTuesdayModel" 152 12 27 := ⟨"SameTuesdayModel", zF_Mod, 34, "SameTuesdayModel", rfl, by decide, zi_Mod, zb_mem 932 rfl rfl, Or.inl rfl⟩
set_option maxRecDepth 20000 in
theorem p_Mod_152_12 : zb_PL "SameTuesdayModel" 152 12 27 .boolean := ⟨"SameTuesdayModel", zF_Mod, 34, "SameTuesdayModel", zt_Mod, rfl, by decide, zi_Mod, zb_mem 932 rfl rfl, Or.inl rfl, zk_Mod, zn_Mod, rfl, rfl⟩
set_option maxRecDepth 20000 in
theorem f_Mod_163_12 : zb_FL "SameTuesdayModel" 163 12 26 := ⟨"SameTuesdayModel", zF_Mod, 34, "SameTuesdayModel", rfl, by decide, zi_Mod, zb_mem 931 rfl rfl, Or.inl rfl⟩
set_option maxRecDepth 20000 in
theorem p_Mod_163_12 : zb_PL "SameTuesdayModel" 163 12 26 .int := ⟨"SameTuesdayModel", zF_Mod, 34, "SameTuesdayModel", zt_Mod, rfl, by decide, zi_Mod, zb_mem 931 rfl rfl, Or.inl rfl, zk_Mod, zn_Mod, rfl, rfl⟩
set_option maxRecDepth 20000 in
theorem f_Mod_236_12 : zb_FL "SameTuesdayModel" 236 12 1 := ⟨"SameTuesdayModel", zF_Mod, 34, "SameTuesdayModel", rfl, by decide, zi_Mod, zb_mem 906 rfl rfl, Or.inl rfl⟩
set_option maxRecDepth 20000 in
theorem p_Mod_236_12 : zb_PL "SameTuesdayModel" 236 12 1 .int := ⟨"SameTuesdayModel", zF_Mod, 34, "SameTuesdayModel", zt_Mod, rfl, by decide, zi_Mod, zb_mem 906 rfl rfl, Or.inl rfl, zk_Mod, zn_Mod, rfl, rfl⟩
set_option maxRecDepth 20000 in
theorem l_Mod_83 : zl_S "SameTuesdayModel" 83 y_Mod_within b_Mod_within 3 (some .boolean) 3 := ⟨⟨zb_mem 1016 rfl rfl, zb_mem 57 rfl rfl, zb_mem 1018 rfl rfl, by decide, by decide +kernel⟩, zb_mem 1017 rfl rfl⟩
set_option maxRecDepth 20000 in
theorem l_Mod_96 : zl_S "SameTuesdayModel" 96 y_Mod_isSheet b_Mod_isSheet 1 (some .boolean) 1 := ⟨⟨zb_mem 1013 rfl rfl, zb_mem 57 rfl rfl, zb_mem 1015 rfl rfl, by decide, by decide +kernel⟩, zb_mem 1014 rfl rfl⟩
set_option maxRecDepth 20000 in
theorem l_Mod_100 : zl_S "SameTuesdayModel" 100 y_Mod_isSort b_Mod_isSort 1 (some .boolean) 1 := ⟨⟨zb_mem 1019 rfl rfl, zb_mem 57 rfl rfl, zb_mem 1021 rfl rfl, by decide, by decide +kernel⟩, zb_mem 1020 rfl rfl⟩
set_option maxRecDepth 20000 in
theorem l_Mod_103 : zl_V "SameTuesdayModel" 103 y_Mod_against b_Mod_against 5 (some .int) 4 := ⟨⟨zb_mem 1022 rfl rfl, zb_mem 57 rfl rfl, zb_mem 1025 rfl rfl, by decide, by decide +kernel⟩, zb_mem 1024 rfl rfl, zb_mem 20 rfl rfl⟩
set_option maxRecDepth 20000 in
theorem l_Mod_107 : zl_V "SameTuesdayModel" 107 y_Mod_fails b_Mod_fails 2 (some .int) 1 := ⟨⟨zb_mem 1026 rfl rfl, zb_mem 57 rfl rfl, zb_mem 1029 rfl rfl, by decide, by decide +kernel⟩, zb_mem 1028 rfl rfl, zb_mem 21 rfl rfl⟩
set_option maxRecDepth 20000 in
theorem l_Mod_111 : zl_V "SameTuesdayModel" 111 y_Mod_readDay b_Mod_readDay 2 (some .boolean) 1 := ⟨⟨zb_mem 1030 rfl rfl, zb_mem 57 rfl rfl, zb_mem 1033 rfl rfl, by decide, by decide +kernel⟩, zb_mem 1032 rfl rfl, zb_mem 22 rfl rfl⟩
set_option maxRecDepth 20000 in
theorem l_Mod_126 : zl_V "SameTuesdayModel" 126 y_Mod_isSign b_Mod_isSign 3 (some .boolean) 2 := ⟨⟨zb_mem 1034 rfl rfl, zb_mem 57 rfl rfl, zb_mem 1037 rfl rfl, by decide, by decide +kernel⟩, zb_mem 1036 rfl rfl, zb_mem 23 rfl rfl⟩
set_option maxRecDepth 20000 in
theorem l_Mod_130 : zl_V "SameTuesdayModel" 130 y_Mod_readHappening b_Mod_readHappening 6 (some .boolean) 1 := ⟨⟨zb_mem 1038 rfl rfl, zb_mem 57 rfl rfl, zb_mem 1041 rfl rfl, by decide, by decide +kernel⟩, zb_mem 1040 rfl rfl, zb_mem 24 rfl rfl⟩
set_option maxRecDepth 20000 in
theorem l_Mod_133 : zl_V "SameTuesdayModel" 133 y_Mod_readOneDeed b_Mod_readOneDeed 5 (some .boolean) 1 := ⟨⟨zb_mem 1046 rfl rfl, zb_mem 57 rfl rfl, zb_mem 1049 rfl rfl, by decide, by decide +kernel⟩, zb_mem 1048 rfl rfl, zb_mem 26 rfl rfl⟩
set_option maxRecDepth 20000 in
theorem l_Mod_136 : zl_V "SameTuesdayModel" 136 y_Mod_digit b_Mod_digit 4 (some .int) 3 := ⟨⟨zb_mem 1042 rfl rfl, zb_mem 57 rfl rfl, zb_mem 1045 rfl rfl, by decide, by decide +kernel⟩, zb_mem 1044 rfl rfl, zb_mem 25 rfl rfl⟩
set_option maxRecDepth 20000 in
theorem l_Mod_140 : zl_V "SameTuesdayModel" 140 y_Mod_isHappening b_Mod_isHappening 2 (some .boolean) 1 := ⟨⟨zb_mem 1054 rfl rfl, zb_mem 57 rfl rfl, zb_mem 1057 rfl rfl, by decide, by decide +kernel⟩, zb_mem 1056 rfl rfl, zb_mem 27 rfl rfl⟩
set_option maxRecDepth 20000 in
theorem l_Mod_143 : zl_V "SameTuesdayModel" 143 y_Mod_isDeed b_Mod_isDeed 2 (some .boolean) 1 := ⟨⟨zb_mem 1062 rfl rfl, zb_mem 57 rfl rfl, zb_mem 1065 rfl rfl, by decide, by decide +kernel⟩, zb_mem 1064 rfl rfl, zb_mem 28 rfl rfl⟩
set_option maxRecDepth 20000 in
theorem l_Mod_146 : zl_S "SameTuesdayModel" 146 y_Mod_isMet b_Mod_isMet 2 (some .boolean) 2 := ⟨⟨zb_mem 1097 rfl rfl, zb_mem 57 rfl rfl, zb_mem 1099 rfl rfl, by decide, by decide +kernel⟩, zb_mem 1098 rfl rfl⟩
set_option maxRecDepth 20000 in
theorem l_Mod_156 : zl_V "SameTuesdayModel" 156 y_Mod_happen b_Mod_happen 7 (some .int) 3 := ⟨⟨zb_mem 1093 rfl rfl, zb_mem 57 rfl rfl, zb_mem 1096 rfl rfl, by decide, by decide +kernel⟩, zb_mem 1095 rfl rfl, zb_mem 32 rfl rfl⟩
set_option maxRecDepth 20000 in
theorem l_Mod_159 : zl_V "SameTuesdayModel" 159 y_Mod_done b_Mod_done 4 (some .int) 2 := ⟨⟨zb_mem 1100 rfl rfl, zb_mem 57 rfl rfl, zb_mem 1103 rfl rfl, by decide, by decide +kernel⟩, zb_mem 1102 rfl rfl, zb_mem 33 rfl rfl⟩
set_option maxRecDepth 20000 in
theorem l_Mod_166 : zl_V "SameTuesdayModel" 166 y_Mod_pairIn b_Mod_pairIn 4 (some .int) 1 := ⟨⟨zb_mem 1104 rfl rfl, zb_mem 57 rfl rfl, zb_mem 1107 rfl rfl, by decide, by decide +kernel⟩, zb_mem 1106 rfl rfl, zb_mem 34 rfl rfl⟩
set_option maxRecDepth 20000 in
theorem l_Mod_169 : zl_V "SameTuesdayModel" 169 y_Mod_mayBegin b_Mod_mayBegin 4 (some .boolean) 3 := ⟨⟨zb_mem 1108 rfl rfl, zb_mem 57 rfl rfl, zb_mem 1111 rfl rfl, by decide, by decide +kernel⟩, zb_mem 1110 rfl rfl, zb_mem 35 rfl rfl⟩
set_option maxRecDepth 20000 in
theorem l_Mod_172 : zl_V "SameTuesdayModel" 172 y_Mod_goTo b_Mod_goTo 8 (some .int) 2 := ⟨⟨zb_mem 1089 rfl rfl, zb_mem 57 rfl rfl, zb_mem 1092 rfl rfl, by decide, by decide +kernel⟩, zb_mem 1091 rfl rfl, zb_mem 31 rfl rfl⟩
set_option maxRecDepth 20000 in
theorem l_Mod_175 : zl_S "SameTuesdayModel" 175 y_Mod_arePairs b_Mod_arePairs 2 (some .boolean) 2 := ⟨⟨zb_mem 1078 rfl rfl, zb_mem 57 rfl rfl, zb_mem 1080 rfl rfl, by decide, by decide +kernel⟩, zb_mem 1079 rfl rfl⟩
set_option maxRecDepth 20000 in
theorem l_Mod_178 : zl_V "SameTuesdayModel" 178 y_Mod_layRow b_Mod_layRow 8 (some .int) 4 := ⟨⟨zb_mem 1081 rfl rfl, zb_mem 57 rfl rfl, zb_mem 1084 rfl rfl, by decide, by decide +kernel⟩, zb_mem 1083 rfl rfl, zb_mem 29 rfl rfl⟩
set_option maxRecDepth 20000 in
theorem l_Mod_181 : zl_V "SameTuesdayModel" 181 y_Mod_ends b_Mod_ends 2 (some .int) 1 := ⟨⟨zb_mem 1085 rfl rfl, zb_mem 57 rfl rfl, zb_mem 1088 rfl rfl, by decide, by decide +kernel⟩, zb_mem 1087 rfl rfl, zb_mem 30 rfl rfl⟩
set_option maxRecDepth 20000 in
theorem l_Mod_184 : zl_S "SameTuesdayModel" 184 y_Mod_place b_Mod_place 3 (some .int) 3 := ⟨⟨zb_mem 1151 rfl rfl, zb_mem 57 rfl rfl, zb_mem 1153 rfl rfl, by decide, by decide +kernel⟩, zb_mem 1152 rfl rfl⟩
set_option maxRecDepth 20000 in
theorem l_Mod_187 : zl_V "SameTuesdayModel" 187 y_Mod_happenIdle b_Mod_happenIdle 3 none 1 := ⟨⟨zb_mem 1139 rfl rfl, zb_mem 57 rfl rfl, zb_mem 1142 rfl rfl, by decide, by decide +kernel⟩, zb_mem 1141 rfl rfl, zb_mem 39 rfl rfl⟩
set_option maxRecDepth 20000 in
theorem l_Mod_191 : zl_V "SameTuesdayModel" 191 y_Mod_happenBusy b_Mod_happenBusy 4 none 2 := ⟨⟨zb_mem 1143 rfl rfl, zb_mem 57 rfl rfl, zb_mem 1146 rfl rfl, by decide, by decide +kernel⟩, zb_mem 1145 rfl rfl, zb_mem 40 rfl rfl⟩
set_option maxRecDepth 20000 in
theorem l_Mod_195 : zl_V "SameTuesdayModel" 195 y_Mod_endDeeds b_Mod_endDeeds 5 none 1 := ⟨⟨zb_mem 1147 rfl rfl, zb_mem 57 rfl rfl, zb_mem 1150 rfl rfl, by decide, by decide +kernel⟩, zb_mem 1149 rfl rfl, zb_mem 41 rfl rfl⟩
set_option maxRecDepth 20000 in
theorem l_Mod_198 : zl_V "SameTuesdayModel" 198 y_Mod_beginDeeds b_Mod_beginDeeds 4 none 1 := ⟨⟨zb_mem 1154 rfl rfl, zb_mem 57 rfl rfl, zb_mem 1157 rfl rfl, by decide, by decide +kernel⟩, zb_mem 1156 rfl rfl, zb_mem 42 rfl rfl⟩
set_option maxRecDepth 20000 in
theorem l_Mod_201 : zl_V "SameTuesdayModel" 201 y_Mod_beginStates b_Mod_beginStates 2 none 0 := ⟨⟨zb_mem 1131 rfl rfl, zb_mem 57 rfl rfl, zb_mem 1134 rfl rfl, by decide, by decide +kernel⟩, zb_mem 1133 rfl rfl, zb_mem 37 rfl rfl⟩
set_option maxRecDepth 20000 in
theorem l_Mod_204 : zl_V "SameTuesdayModel" 204 y_Mod_goMinute b_Mod_goMinute 3 none 1 := ⟨⟨zb_mem 1135 rfl rfl, zb_mem 57 rfl rfl, zb_mem 1138 rfl rfl, by decide, by decide +kernel⟩, zb_mem 1137 rfl rfl, zb_mem 38 rfl rfl⟩
set_option maxRecDepth 20000 in
theorem l_Mod_207 : zl_V "SameTuesdayModel" 207 y_Mod_layCanBe b_Mod_layCanBe 3 none 0 := ⟨⟨zb_mem 1158 rfl rfl, zb_mem 57 rfl rfl, zb_mem 1161 rfl rfl, by decide, by decide +kernel⟩, zb_mem 1160 rfl rfl, zb_mem 43 rfl rfl⟩
set_option maxRecDepth 20000 in
theorem l_Mod_210 : zl_S "SameTuesdayModel" 210 y_Mod_isSet b_Mod_isSet 1 (some .boolean) 1 := ⟨⟨zb_mem 1124 rfl rfl, zb_mem 57 rfl rfl, zb_mem 1126 rfl rfl, by decide, by decide +kernel⟩, zb_mem 1125 rfl rfl⟩
set_option maxRecDepth 20000 in
theorem l_Mod_213 : zl_V "SameTuesdayModel" 213 y_Mod_goStates b_Mod_goStates 3 none 1 := ⟨⟨zb_mem 1127 rfl rfl, zb_mem 57 rfl rfl, zb_mem 1130 rfl rfl, by decide, by decide +kernel⟩, zb_mem 1129 rfl rfl, zb_mem 36 rfl rfl⟩
set_option maxRecDepth 20000 in
theorem l_Mod_216 : zl_V "SameTuesdayModel" 216 y_Mod_isWithinOne b_Mod_isWithinOne 3 (some .boolean) 1 := ⟨⟨zb_mem 1166 rfl rfl, zb_mem 57 rfl rfl, zb_mem 1169 rfl rfl, by decide, by decide +kernel⟩, zb_mem 1168 rfl rfl, zb_mem 44 rfl rfl⟩
set_option maxRecDepth 20000 in
theorem l_Mod_219 : zl_V "SameTuesdayModel" 219 y_Mod_isLaw b_Mod_isLaw 3 (some .boolean) 1 := ⟨⟨zb_mem 1186 rfl rfl, zb_mem 57 rfl rfl, zb_mem 1189 rfl rfl, by decide, by decide +kernel⟩, zb_mem 1188 rfl rfl, zb_mem 45 rfl rfl⟩
set_option maxRecDepth 20000 in
theorem l_Mod_222 : zl_S "SameTuesdayModel" 222 y_Mod_size b_Mod_size 3 (some .int) 1 := ⟨⟨zb_mem 1194 rfl rfl, zb_mem 57 rfl rfl, zb_mem 1196 rfl rfl, by decide, by decide +kernel⟩, zb_mem 1195 rfl rfl⟩
set_option maxRecDepth 20000 in
theorem l_Mod_225 : zl_V "SameTuesdayModel" 225 y_Mod_parted b_Mod_parted 5 (some .int) 1 := ⟨⟨zb_mem 1201 rfl rfl, zb_mem 57 rfl rfl, zb_mem 1204 rfl rfl, by decide, by decide +kernel⟩, zb_mem 1203 rfl rfl, zb_mem 46 rfl rfl⟩
set_option maxRecDepth 20000 in
theorem l_Mod_228 : zl_S "SameTuesdayModel" 228 y_Mod_inLeastTerms b_Mod_inLeastTerms 11 (some .long) 3 := ⟨⟨zb_mem 1214 rfl rfl, zb_mem 57 rfl rfl, zb_mem 1216 rfl rfl, by decide, by decide +kernel⟩, zb_mem 1215 rfl rfl⟩
set_option maxRecDepth 20000 in
theorem l_Mod_232 : zl_V "SameTuesdayModel" 232 y_Mod_lost b_Mod_lost 2 (some .long) 1 := ⟨⟨zb_mem 1233 rfl rfl, zb_mem 57 rfl rfl, zb_mem 1236 rfl rfl, by decide, by decide +kernel⟩, zb_mem 1235 rfl rfl, zb_mem 47 rfl rfl⟩
set_option maxRecDepth 20000 in
theorem l_Mod_239 : zl_V "SameTuesdayModel" 239 y_Mod_begins b_Mod_begins 2 none 1 := ⟨⟨zb_mem 1245 rfl rfl, zb_mem 57 rfl rfl, zb_mem 1248 rfl rfl, by decide, by decide +kernel⟩, zb_mem 1247 rfl rfl, zb_mem 48 rfl rfl⟩
theorem d_Mod_init_0 : zd_l .aload_n .aload b_Mod_init 0 0 1 := Or.inl ⟨0, rfl, by decide +kernel, rfl⟩
theorem d_Mod_init_1 : zd b_Mod_init 1 (.invokespecial 1) 3 4 := ⟨by decide +kernel, rfl⟩
theorem d_Mod_init_4 : zd_l .aload_n .aload b_Mod_init 4 0 5 := Or.inl ⟨0, rfl, by decide +kernel, rfl⟩
theorem d_Mod_init_5 : zd_k b_Mod_init "SameTuesdayModel" 5 4 6 := Or.inl ⟨4, by decide +kernel, by decide, rfl⟩
theorem d_Mod_init_6 : zd b_Mod_init 6 (.newarray .int) 2 8 := ⟨by decide +kernel, rfl⟩
theorem d_Mod_init_8 : zd b_Mod_init 8 .dup 1 9 := ⟨by decide +kernel, rfl⟩
theorem d_Mod_init_9 : zd_k b_Mod_init "SameTuesdayModel" 9 0 10 := Or.inl ⟨0, by decide +kernel, by decide, rfl⟩
theorem d_Mod_init_10 : zd_k b_Mod_init "SameTuesdayModel" 10 (-9) 12 := Or.inr (Or.inl ⟨(-9), by decide +kernel, by decide, rfl⟩)
theorem d_Mod_init_12 : zd b_Mod_init 12 .iastore 1 13 := ⟨by decide +kernel, rfl⟩
theorem d_Mod_init_13 : zd b_Mod_init 13 .dup 1 14 := ⟨by decide +kernel, rfl⟩
theorem d_Mod_init_14 : zd_k b_Mod_init "SameTuesdayModel" 14 1 15 := Or.inl ⟨1, by decide +kernel, by decide, rfl⟩
theorem d_Mod_init_15 : zd_k b_Mod_init "SameTuesdayModel" 15 (-9) 17 := Or.inr (Or.inl ⟨(-9), by decide +kernel, by decide, rfl⟩)
theorem d_Mod_init_17 : zd b_Mod_init 17 .iastore 1 18 := ⟨by decide +kernel, rfl⟩
theorem d_Mod_init_18 : zd b_Mod_init 18 .dup 1 19 := ⟨by decide +kernel, rfl⟩
theorem d_Mod_init_19 : zd_k b_Mod_init "SameTuesdayModel" 19 2 20 := Or.inl ⟨2, by decide +kernel, by decide, rfl⟩
theorem d_Mod_init_20 : zd_k b_Mod_init "SameTuesdayModel" 20 (-9) 22 := Or.inr (Or.inl ⟨(-9), by decide +kernel, by decide, rfl⟩)
theorem d_Mod_init_22 : zd b_Mod_init 22 .iastore 1 23 := ⟨by decide +kernel, rfl⟩
theorem d_Mod_init_23 : zd b_Mod_init 23 .dup 1 24 := ⟨by decide +kernel, rfl⟩
theorem d_Mod_init_24 : zd_k b_Mod_init "SameTuesdayModel" 24 3 25 := Or.inl ⟨3, by decide +kernel, by decide, rfl⟩
theorem d_Mod_init_25 : zd_k b_Mod_init "SameTuesdayModel" 25 (-9) 27 := Or.inr (Or.inl ⟨(-9), by decide +kernel, by decide, rfl⟩)
theorem d_Mod_init_27 : zd b_Mod_init 27 .iastore 1 28 := ⟨by decide +kernel, rfl⟩
theorem d_Mod_init_28 : zd b_Mod_init 28 (.putfield 9) 3 31 := ⟨by decide +kernel, rfl⟩
theorem d_Mod_init_31 : zd_l .aload_n .aload b_Mod_init 31 0 32 := Or.inl ⟨0, rfl, by decide +kernel, rfl⟩
theorem d_Mod_init_32 : zd_k b_Mod_init "SameTuesdayModel" 32 4 33 := Or.inl ⟨4, by decide +kernel, by decide, rfl⟩
theorem d_Mod_init_33 : zd b_Mod_init 33 (.newarray .int) 2 35 := ⟨by decide +kernel, rfl⟩
theorem d_Mod_init_35 : zd b_Mod_init 35 (.putfield 13) 3 38 := ⟨by decide +kernel, rfl⟩
theorem d_Mod_init_38 : zd_l .aload_n .aload b_Mod_init 38 0 39 := Or.inl ⟨0, rfl, by decide +kernel, rfl⟩
theorem d_Mod_init_39 : zd_k b_Mod_init "SameTuesdayModel" 39 240 42 := Or.inr (Or.inr (Or.inl ⟨240, by decide +kernel, by decide, rfl⟩))
theorem d_Mod_init_42 : zd b_Mod_init 42 (.newarray .int) 2 44 := ⟨by decide +kernel, rfl⟩
theorem d_Mod_init_44 : zd b_Mod_init 44 (.putfield 16) 3 47 := ⟨by decide +kernel, rfl⟩
theorem d_Mod_init_47 : zd_l .aload_n .aload b_Mod_init 47 0 48 := Or.inl ⟨0, rfl, by decide +kernel, rfl⟩
theorem d_Mod_init_48 : zd_k b_Mod_init "SameTuesdayModel" 48 6 50 := Or.inr (Or.inl ⟨6, by decide +kernel, by decide, rfl⟩)
theorem d_Mod_init_50 : zd b_Mod_init 50 (.newarray .int) 2 52 := ⟨by decide +kernel, rfl⟩
theorem d_Mod_init_52 : zd b_Mod_init 52 (.putfield 19) 3 55 := ⟨by decide +kernel, rfl⟩
theorem d_Mod_init_55 : zd_l .aload_n .aload b_Mod_init 55 0 56 := Or.inl ⟨0, rfl, by decide +kernel, rfl⟩
theorem d_Mod_init_56 : zd_k b_Mod_init "SameTuesdayModel" 56 6 58 := Or.inr (Or.inl ⟨6, by decide +kernel, by decide, rfl⟩)
theorem d_Mod_init_58 : zd b_Mod_init 58 (.newarray .int) 2 60 := ⟨by decide +kernel, rfl⟩
theorem d_Mod_init_60 : zd b_Mod_init 60 (.putfield 22) 3 63 := ⟨by decide +kernel, rfl⟩
theorem d_Mod_init_63 : zd_l .aload_n .aload b_Mod_init 63 0 64 := Or.inl ⟨0, rfl, by decide +kernel, rfl⟩
theorem d_Mod_init_64 : zd_k b_Mod_init "SameTuesdayModel" 64 6 66 := Or.inr (Or.inl ⟨6, by decide +kernel, by decide, rfl⟩)
theorem d_Mod_init_66 : zd b_Mod_init 66 (.newarray .int) 2 68 := ⟨by decide +kernel, rfl⟩
theorem d_Mod_init_68 : zd b_Mod_init 68 (.putfield 25) 3 71 := ⟨by decide +kernel, rfl⟩
theorem d_Mod_init_71 : zd_l .aload_n .aload b_Mod_init 71 0 72 := Or.inl ⟨0, rfl, by decide +kernel, rfl⟩
theorem d_Mod_init_72 : zd_k b_Mod_init "SameTuesdayModel" 72 6 74 := Or.inr (Or.inl ⟨6, by decide +kernel, by decide, rfl⟩)
theorem d_Mod_init_74 : zd b_Mod_init 74 (.newarray .int) 2 76 := ⟨by decide +kernel, rfl⟩
theorem d_Mod_init_76 : zd b_Mod_init 76 (.putfield 28) 3 79 := ⟨by decide +kernel, rfl⟩
theorem d_Mod_init_79 : zd_l .aload_n .aload b_Mod_init 79 0 80 := Or.inl ⟨0, rfl, by decide +kernel, rfl⟩
theorem d_Mod_init_80 : zd_k b_Mod_init "SameTuesdayModel" 80 5 81 := Or.inl ⟨5, by decide +kernel, by decide, rfl⟩
theorem d_Mod_init_81 : zd b_Mod_init 81 (.newarray .int) 2 83 := ⟨by decide +kernel, rfl⟩
theorem d_Mod_init_83 : zd b_Mod_init 83 (.putfield 31) 3 86 := ⟨by decide +kernel, rfl⟩
theorem d_Mod_init_86 : zd_l .aload_n .aload b_Mod_init 86 0 87 := Or.inl ⟨0, rfl, by decide +kernel, rfl⟩
theorem d_Mod_init_87 : zd_k b_Mod_init "SameTuesdayModel" 87 5 88 := Or.inl ⟨5, by decide +kernel, by decide, rfl⟩
theorem d_Mod_init_88 : zd b_Mod_init 88 (.newarray .int) 2 90 := ⟨by decide +kernel, rfl⟩
theorem d_Mod_init_90 : zd b_Mod_init 90 (.putfield 34) 3 93 := ⟨by decide +kernel, rfl⟩
theorem d_Mod_init_93 : zd_l .aload_n .aload b_Mod_init 93 0 94 := Or.inl ⟨0, rfl, by decide +kernel, rfl⟩
theorem d_Mod_init_94 : zd_k b_Mod_init "SameTuesdayModel" 94 5 95 := Or.inl ⟨5, by decide +kernel, by decide, rfl⟩
theorem d_Mod_init_95 : zd b_Mod_init 95 (.newarray .int) 2 97 := ⟨by decide +kernel, rfl⟩
theorem d_Mod_init_97 : zd b_Mod_init 97 (.putfield 37) 3 100 := ⟨by decide +kernel, rfl⟩
theorem d_Mod_init_100 : zd_l .aload_n .aload b_Mod_init 100 0 101 := Or.inl ⟨0, rfl, by decide +kernel, rfl⟩
theorem d_Mod_init_101 : zd_k b_Mod_init "SameTuesdayModel" 101 5 102 := Or.inl ⟨5, by decide +kernel, by decide, rfl⟩
theorem d_Mod_init_102 : zd b_Mod_init 102 (.newarray .int) 2 104 := ⟨by decide +kernel, rfl⟩
theorem d_Mod_init_104 : zd b_Mod_init 104 (.putfield 40) 3 107 := ⟨by decide +kernel, rfl⟩
theorem d_Mod_init_107 : zd_l .aload_n .aload b_Mod_init 107 0 108 := Or.inl ⟨0, rfl, by decide +kernel, rfl⟩
theorem d_Mod_init_108 : zd_k b_Mod_init "SameTuesdayModel" 108 24 110 := Or.inr (Or.inl ⟨24, by decide +kernel, by decide, rfl⟩)
theorem d_Mod_init_110 : zd b_Mod_init 110 (.newarray .int) 2 112 := ⟨by decide +kernel, rfl⟩
theorem d_Mod_init_112 : zd b_Mod_init 112 (.putfield 43) 3 115 := ⟨by decide +kernel, rfl⟩
theorem d_Mod_init_115 : zd_l .aload_n .aload b_Mod_init 115 0 116 := Or.inl ⟨0, rfl, by decide +kernel, rfl⟩
theorem d_Mod_init_116 : zd_k b_Mod_init "SameTuesdayModel" 116 20 118 := Or.inr (Or.inl ⟨20, by decide +kernel, by decide, rfl⟩)
theorem d_Mod_init_118 : zd b_Mod_init 118 (.newarray .int) 2 120 := ⟨by decide +kernel, rfl⟩
theorem d_Mod_init_120 : zd b_Mod_init 120 (.putfield 46) 3 123 := ⟨by decide +kernel, rfl⟩
theorem d_Mod_init_123 : zd_l .aload_n .aload b_Mod_init 123 0 124 := Or.inl ⟨0, rfl, by decide +kernel, rfl⟩
theorem d_Mod_init_124 : zd_k b_Mod_init "SameTuesdayModel" 124 20 126 := Or.inr (Or.inl ⟨20, by decide +kernel, by decide, rfl⟩)
theorem d_Mod_init_126 : zd b_Mod_init 126 (.newarray .int) 2 128 := ⟨by decide +kernel, rfl⟩
theorem d_Mod_init_128 : zd b_Mod_init 128 (.putfield 49) 3 131 := ⟨by decide +kernel, rfl⟩
theorem d_Mod_init_131 : zd_l .aload_n .aload b_Mod_init 131 0 132 := Or.inl ⟨0, rfl, by decide +kernel, rfl⟩
theorem d_Mod_init_132 : zd_k b_Mod_init "SameTuesdayModel" 132 20 134 := Or.inr (Or.inl ⟨20, by decide +kernel, by decide, rfl⟩)
theorem d_Mod_init_134 : zd b_Mod_init 134 (.newarray .int) 2 136 := ⟨by decide +kernel, rfl⟩
theorem d_Mod_init_136 : zd b_Mod_init 136 (.putfield 52) 3 139 := ⟨by decide +kernel, rfl⟩
theorem d_Mod_init_139 : zd_l .aload_n .aload b_Mod_init 139 0 140 := Or.inl ⟨0, rfl, by decide +kernel, rfl⟩
theorem d_Mod_init_140 : zd_k b_Mod_init "SameTuesdayModel" 140 20 142 := Or.inr (Or.inl ⟨20, by decide +kernel, by decide, rfl⟩)
theorem d_Mod_init_142 : zd b_Mod_init 142 (.newarray .boolean) 2 144 := ⟨by decide +kernel, rfl⟩
theorem d_Mod_init_144 : zd b_Mod_init 144 (.putfield 55) 3 147 := ⟨by decide +kernel, rfl⟩
theorem d_Mod_init_147 : zd_l .aload_n .aload b_Mod_init 147 0 148 := Or.inl ⟨0, rfl, by decide +kernel, rfl⟩
theorem d_Mod_init_148 : zd_k b_Mod_init "SameTuesdayModel" 148 (-9) 150 := Or.inr (Or.inl ⟨(-9), by decide +kernel, by decide, rfl⟩)
theorem d_Mod_init_150 : zd b_Mod_init 150 (.putfield 59) 3 153 := ⟨by decide +kernel, rfl⟩
theorem d_Mod_init_153 : zd_l .aload_n .aload b_Mod_init 153 0 154 := Or.inl ⟨0, rfl, by decide +kernel, rfl⟩
theorem d_Mod_init_154 : zd_k b_Mod_init "SameTuesdayModel" 154 64 156 := Or.inr (Or.inl ⟨64, by decide +kernel, by decide, rfl⟩)
theorem d_Mod_init_156 : zd b_Mod_init 156 (.newarray .boolean) 2 158 := ⟨by decide +kernel, rfl⟩
theorem d_Mod_init_158 : zd b_Mod_init 158 (.putfield 63) 3 161 := ⟨by decide +kernel, rfl⟩
theorem d_Mod_init_161 : zd_l .aload_n .aload b_Mod_init 161 0 162 := Or.inl ⟨0, rfl, by decide +kernel, rfl⟩
theorem d_Mod_init_162 : zd_k b_Mod_init "SameTuesdayModel" 162 3200 165 := Or.inr (Or.inr (Or.inl ⟨3200, by decide +kernel, by decide, rfl⟩))
theorem d_Mod_init_165 : zd b_Mod_init 165 (.newarray .boolean) 2 167 := ⟨by decide +kernel, rfl⟩
theorem d_Mod_init_167 : zd b_Mod_init 167 (.putfield 66) 3 170 := ⟨by decide +kernel, rfl⟩
theorem d_Mod_init_170 : zd_l .aload_n .aload b_Mod_init 170 0 171 := Or.inl ⟨0, rfl, by decide +kernel, rfl⟩
theorem d_Mod_init_171 : zd_k b_Mod_init "SameTuesdayModel" 171 64 173 := Or.inr (Or.inl ⟨64, by decide +kernel, by decide, rfl⟩)
theorem d_Mod_init_173 : zd b_Mod_init 173 (.newarray .boolean) 2 175 := ⟨by decide +kernel, rfl⟩
theorem d_Mod_init_175 : zd b_Mod_init 175 (.putfield 69) 3 178 := ⟨by decide +kernel, rfl⟩
theorem d_Mod_init_178 : zd_l .aload_n .aload b_Mod_init 178 0 179 := Or.inl ⟨0, rfl, by decide +kernel, rfl⟩
theorem d_Mod_init_179 : zd_k b_Mod_init "SameTuesdayModel" 179 64 181 := Or.inr (Or.inl ⟨64, by decide +kernel, by decide, rfl⟩)
theorem d_Mod_init_181 : zd b_Mod_init 181 (.newarray .boolean) 2 183 := ⟨by decide +kernel, rfl⟩
theorem d_Mod_init_183 : zd b_Mod_init 183 (.putfield 72) 3 186 := ⟨by decide +kernel, rfl⟩
theorem d_Mod_init_186 : zd_l .aload_n .aload b_Mod_init 186 0 187 := Or.inl ⟨0, rfl, by decide +kernel, rfl⟩
theorem d_Mod_init_187 : zd_k b_Mod_init "SameTuesdayModel" 187 8 189 := Or.inr (Or.inl ⟨8, by decide +kernel, by decide, rfl⟩)
theorem d_Mod_init_189 : zd b_Mod_init 189 (.newarray .int) 2 191 := ⟨by decide +kernel, rfl⟩
theorem d_Mod_init_191 : zd b_Mod_init 191 (.putfield 75) 3 194 := ⟨by decide +kernel, rfl⟩
theorem d_Mod_init_194 : zd b_Mod_init 194 .return_ 1 195 := ⟨by decide +kernel, rfl⟩
theorem d_Mod_fails_0 : zd_l .aload_n .aload b_Mod_fails 0 0 1 := Or.inl ⟨0, rfl, by decide +kernel, rfl⟩
theorem d_Mod_fails_1 : zd_l .iload_n .iload b_Mod_fails 1 1 2 := Or.inl ⟨1, rfl, by decide +kernel, rfl⟩
theorem d_Mod_fails_2 : zd b_Mod_fails 2 (.putfield 78) 3 5 := ⟨by decide +kernel, rfl⟩
theorem d_Mod_fails_5 : zd_k b_Mod_fails "SameTuesdayModel" 5 (-10) 7 := Or.inr (Or.inl ⟨(-10), by decide +kernel, by decide, rfl⟩)
theorem d_Mod_fails_7 : zd_l .iload_n .iload b_Mod_fails 7 1 8 := Or.inl ⟨1, rfl, by decide +kernel, rfl⟩
theorem d_Mod_fails_8 : zd b_Mod_fails 8 .isub 1 9 := ⟨by decide +kernel, rfl⟩
theorem d_Mod_fails_9 : zd b_Mod_fails 9 .ireturn 1 10 := ⟨by decide +kernel, rfl⟩
theorem d_Mod_lost_0 : zd_l .aload_n .aload b_Mod_lost 0 0 1 := Or.inl ⟨0, rfl, by decide +kernel, rfl⟩
theorem d_Mod_lost_1 : zd_l .iload_n .iload b_Mod_lost 1 1 2 := Or.inl ⟨1, rfl, by decide +kernel, rfl⟩
theorem d_Mod_lost_2 : zd b_Mod_lost 2 (.putfield 78) 3 5 := ⟨by decide +kernel, rfl⟩
set_option maxRecDepth 20000 in
theorem d_Mod_lost_5 : zd_kl b_Mod_lost "SameTuesdayModel" 5 (-9223372036854775808) 8 := Or.inr ⟨81, by decide +kernel, zb_mem 1213 rfl rfl, rfl⟩
theorem d_Mod_lost_8 : zd b_Mod_lost 8 .lreturn 1 9 := ⟨by decide +kernel, rfl⟩
theorem d_Mod_within_0 : zd_l .iload_n .iload b_Mod_within 0 0 1 := Or.inl ⟨0, rfl, by decide +kernel, rfl⟩
theorem d_Mod_within_1 : zd_l .iload_n .iload b_Mod_within 1 1 2 := Or.inl ⟨1, rfl, by decide +kernel, rfl⟩
theorem d_Mod_within_2 : zd_b b_Mod_within 2 (.if_icmp .lt) 5 14 := ⟨12, by decide +kernel, by decide, rfl⟩
theorem d_Mod_within_5 : zd_l .iload_n .iload b_Mod_within 5 0 6 := Or.inl ⟨0, rfl, by decide +kernel, rfl⟩
theorem d_Mod_within_6 : zd_l .iload_n .iload b_Mod_within 6 2 7 := Or.inl ⟨2, rfl, by decide +kernel, rfl⟩
theorem d_Mod_within_7 : zd_b b_Mod_within 7 (.if_icmp .gt) 10 14 := ⟨7, by decide +kernel, by decide, rfl⟩
theorem d_Mod_within_10 : zd_k b_Mod_within "SameTuesdayModel" 10 1 11 := Or.inl ⟨1, by decide +kernel, by decide, rfl⟩
theorem d_Mod_within_11 : zd_b b_Mod_within 11 .goto 14 15 := ⟨4, by decide +kernel, by decide, rfl⟩
theorem d_Mod_within_14 : zd_k b_Mod_within "SameTuesdayModel" 14 0 15 := Or.inl ⟨0, by decide +kernel, by decide, rfl⟩
theorem d_Mod_within_15 : zd b_Mod_within 15 .ireturn 1 16 := ⟨by decide +kernel, rfl⟩
theorem d_Mod_isSheet_0 : zd_l .iload_n .iload b_Mod_isSheet 0 0 1 := Or.inl ⟨0, rfl, by decide +kernel, rfl⟩
theorem d_Mod_isSheet_1 : zd_k b_Mod_isSheet "SameTuesdayModel" 1 0 2 := Or.inl ⟨0, by decide +kernel, by decide, rfl⟩
theorem d_Mod_isSheet_2 : zd_k b_Mod_isSheet "SameTuesdayModel" 2 3 3 := Or.inl ⟨3, by decide +kernel, by decide, rfl⟩
theorem d_Mod_isSheet_3 : zd b_Mod_isSheet 3 (.invokestatic 83) 3 6 := ⟨by decide +kernel, rfl⟩
theorem d_Mod_isSheet_6 : zd b_Mod_isSheet 6 .ireturn 1 7 := ⟨by decide +kernel, rfl⟩
theorem d_Mod_isSort_0 : zd_l .iload_n .iload b_Mod_isSort 0 0 1 := Or.inl ⟨0, rfl, by decide +kernel, rfl⟩
theorem d_Mod_isSort_1 : zd_k b_Mod_isSort "SameTuesdayModel" 1 0 2 := Or.inl ⟨0, by decide +kernel, by decide, rfl⟩
theorem d_Mod_isSort_2 : zd_k b_Mod_isSort "SameTuesdayModel" 2 2 3 := Or.inl ⟨2, by decide +kernel, by decide, rfl⟩
theorem d_Mod_isSort_3 : zd b_Mod_isSort 3 (.invokestatic 83) 3 6 := ⟨by decide +kernel, rfl⟩
theorem d_Mod_isSort_6 : zd b_Mod_isSort 6 .ireturn 1 7 := ⟨by decide +kernel, rfl⟩
theorem d_Mod_against_0 : zd_l .aload_n .aload b_Mod_against 0 0 1 := Or.inl ⟨0, rfl, by decide +kernel, rfl⟩
theorem d_Mod_against_1 : zd b_Mod_against 1 (.getfield 9) 3 4 := ⟨by decide +kernel, rfl⟩
theorem d_Mod_against_4 : zd_l .iload_n .iload b_Mod_against 4 1 5 := Or.inl ⟨1, rfl, by decide +kernel, rfl⟩
theorem d_Mod_against_5 : zd b_Mod_against 5 .iaload 1 6 := ⟨by decide +kernel, rfl⟩
theorem d_Mod_against_6 : zd_k b_Mod_against "SameTuesdayModel" 6 (-9) 8 := Or.inr (Or.inl ⟨(-9), by decide +kernel, by decide, rfl⟩)
theorem d_Mod_against_8 : zd_b b_Mod_against 8 (.if_icmp .eq) 11 23 := ⟨15, by decide +kernel, by decide, rfl⟩
theorem d_Mod_against_11 : zd_l .aload_n .aload b_Mod_against 11 0 12 := Or.inl ⟨0, rfl, by decide +kernel, rfl⟩
theorem d_Mod_against_12 : zd b_Mod_against 12 (.getfield 9) 3 15 := ⟨by decide +kernel, rfl⟩
theorem d_Mod_against_15 : zd_l .iload_n .iload b_Mod_against 15 1 16 := Or.inl ⟨1, rfl, by decide +kernel, rfl⟩
theorem d_Mod_against_16 : zd b_Mod_against 16 .iaload 1 17 := ⟨by decide +kernel, rfl⟩
theorem d_Mod_against_17 : zd_l .iload_n .iload b_Mod_against 17 2 18 := Or.inl ⟨2, rfl, by decide +kernel, rfl⟩
theorem d_Mod_against_18 : zd_b b_Mod_against 18 (.if_icmp .eq) 21 23 := ⟨5, by decide +kernel, by decide, rfl⟩
theorem d_Mod_against_21 : zd_k b_Mod_against "SameTuesdayModel" 21 2 22 := Or.inl ⟨2, by decide +kernel, by decide, rfl⟩
theorem d_Mod_against_22 : zd b_Mod_against 22 .ireturn 1 23 := ⟨by decide +kernel, rfl⟩
theorem d_Mod_against_23 : zd_l .aload_n .aload b_Mod_against 23 0 24 := Or.inl ⟨0, rfl, by decide +kernel, rfl⟩
theorem d_Mod_against_24 : zd b_Mod_against 24 (.getfield 9) 3 27 := ⟨by decide +kernel, rfl⟩
theorem d_Mod_against_27 : zd_l .iload_n .iload b_Mod_against 27 1 28 := Or.inl ⟨1, rfl, by decide +kernel, rfl⟩
theorem d_Mod_against_28 : zd b_Mod_against 28 .iaload 1 29 := ⟨by decide +kernel, rfl⟩
theorem d_Mod_against_29 : zd_k b_Mod_against "SameTuesdayModel" 29 (-9) 31 := Or.inr (Or.inl ⟨(-9), by decide +kernel, by decide, rfl⟩)
theorem d_Mod_against_31 : zd_b b_Mod_against 31 (.if_icmp .ne) 34 36 := ⟨5, by decide +kernel, by decide, rfl⟩
theorem d_Mod_against_34 : zd_k b_Mod_against "SameTuesdayModel" 34 1 35 := Or.inl ⟨1, by decide +kernel, by decide, rfl⟩
theorem d_Mod_against_35 : zd b_Mod_against 35 .ireturn 1 36 := ⟨by decide +kernel, rfl⟩
theorem d_Mod_against_36 : zd_l .iload_n .iload b_Mod_against 36 4 38 := Or.inr ⟨by decide +kernel, rfl⟩
theorem d_Mod_against_38 : zd_b b_Mod_against 38 (.ifCond .ge) 41 43 := ⟨5, by decide +kernel, by decide, rfl⟩
theorem d_Mod_against_41 : zd_k b_Mod_against "SameTuesdayModel" 41 4 42 := Or.inl ⟨4, by decide +kernel, by decide, rfl⟩
theorem d_Mod_against_42 : zd b_Mod_against 42 .ireturn 1 43 := ⟨by decide +kernel, rfl⟩
theorem d_Mod_against_43 : zd_l .iload_n .iload b_Mod_against 43 3 44 := Or.inl ⟨3, rfl, by decide +kernel, rfl⟩
theorem d_Mod_against_44 : zd_b b_Mod_against 44 (.ifCond .lt) 47 70 := ⟨26, by decide +kernel, by decide, rfl⟩
theorem d_Mod_against_47 : zd_l .iload_n .iload b_Mod_against 47 3 48 := Or.inl ⟨3, rfl, by decide +kernel, rfl⟩
theorem d_Mod_against_48 : zd_l .aload_n .aload b_Mod_against 48 0 49 := Or.inl ⟨0, rfl, by decide +kernel, rfl⟩
theorem d_Mod_against_49 : zd b_Mod_against 49 (.getfield 13) 3 52 := ⟨by decide +kernel, rfl⟩
theorem d_Mod_against_52 : zd_l .iload_n .iload b_Mod_against 52 1 53 := Or.inl ⟨1, rfl, by decide +kernel, rfl⟩
theorem d_Mod_against_53 : zd b_Mod_against 53 .iaload 1 54 := ⟨by decide +kernel, rfl⟩
theorem d_Mod_against_54 : zd_b b_Mod_against 54 (.if_icmp .gt) 57 70 := ⟨16, by decide +kernel, by decide, rfl⟩
theorem d_Mod_against_57 : zd_l .iload_n .iload b_Mod_against 57 4 59 := Or.inr ⟨by decide +kernel, rfl⟩
theorem d_Mod_against_59 : zd_l .aload_n .aload b_Mod_against 59 0 60 := Or.inl ⟨0, rfl, by decide +kernel, rfl⟩
theorem d_Mod_against_60 : zd b_Mod_against 60 (.getfield 13) 3 63 := ⟨by decide +kernel, rfl⟩
theorem d_Mod_against_63 : zd_l .iload_n .iload b_Mod_against 63 1 64 := Or.inl ⟨1, rfl, by decide +kernel, rfl⟩
theorem d_Mod_against_64 : zd b_Mod_against 64 .iaload 1 65 := ⟨by decide +kernel, rfl⟩
theorem d_Mod_against_65 : zd_l .iload_n .iload b_Mod_against 65 3 66 := Or.inl ⟨3, rfl, by decide +kernel, rfl⟩
theorem d_Mod_against_66 : zd b_Mod_against 66 .isub 1 67 := ⟨by decide +kernel, rfl⟩
theorem d_Mod_against_67 : zd_b b_Mod_against 67 (.if_icmp .le) 70 74 := ⟨7, by decide +kernel, by decide, rfl⟩
theorem d_Mod_against_70 : zd_k b_Mod_against "SameTuesdayModel" 70 3 71 := Or.inl ⟨3, by decide +kernel, by decide, rfl⟩
theorem d_Mod_against_71 : zd_b b_Mod_against 71 .goto 74 75 := ⟨4, by decide +kernel, by decide, rfl⟩
theorem d_Mod_against_74 : zd_k b_Mod_against "SameTuesdayModel" 74 0 75 := Or.inl ⟨0, by decide +kernel, by decide, rfl⟩
theorem d_Mod_against_75 : zd b_Mod_against 75 .ireturn 1 76 := ⟨by decide +kernel, rfl⟩
theorem d_Mod_isHappening_0 : zd_l .iload_n .iload b_Mod_isHappening 0 1 1 := Or.inl ⟨1, rfl, by decide +kernel, rfl⟩
theorem d_Mod_isHappening_1 : zd_b b_Mod_isHappening 1 (.ifCond .lt) 4 16 := ⟨15, by decide +kernel, by decide, rfl⟩
theorem d_Mod_isHappening_4 : zd_l .iload_n .iload b_Mod_isHappening 4 1 5 := Or.inl ⟨1, rfl, by decide +kernel, rfl⟩
theorem d_Mod_isHappening_5 : zd_l .aload_n .aload b_Mod_isHappening 5 0 6 := Or.inl ⟨0, rfl, by decide +kernel, rfl⟩
theorem d_Mod_isHappening_6 : zd b_Mod_isHappening 6 (.getfield 87) 3 9 := ⟨by decide +kernel, rfl⟩
theorem d_Mod_isHappening_9 : zd_b b_Mod_isHappening 9 (.if_icmp .ge) 12 16 := ⟨7, by decide +kernel, by decide, rfl⟩
theorem d_Mod_isHappening_12 : zd_k b_Mod_isHappening "SameTuesdayModel" 12 1 13 := Or.inl ⟨1, by decide +kernel, by decide, rfl⟩
theorem d_Mod_isHappening_13 : zd_b b_Mod_isHappening 13 .goto 16 17 := ⟨4, by decide +kernel, by decide, rfl⟩
theorem d_Mod_isHappening_16 : zd_k b_Mod_isHappening "SameTuesdayModel" 16 0 17 := Or.inl ⟨0, by decide +kernel, by decide, rfl⟩
theorem d_Mod_isHappening_17 : zd b_Mod_isHappening 17 .ireturn 1 18 := ⟨by decide +kernel, rfl⟩
theorem d_Mod_isDeed_0 : zd_l .iload_n .iload b_Mod_isDeed 0 1 1 := Or.inl ⟨1, rfl, by decide +kernel, rfl⟩
theorem d_Mod_isDeed_1 : zd_b b_Mod_isDeed 1 (.ifCond .lt) 4 16 := ⟨15, by decide +kernel, by decide, rfl⟩
theorem d_Mod_isDeed_4 : zd_l .iload_n .iload b_Mod_isDeed 4 1 5 := Or.inl ⟨1, rfl, by decide +kernel, rfl⟩
theorem d_Mod_isDeed_5 : zd_l .aload_n .aload b_Mod_isDeed 5 0 6 := Or.inl ⟨0, rfl, by decide +kernel, rfl⟩
theorem d_Mod_isDeed_6 : zd b_Mod_isDeed 6 (.getfield 90) 3 9 := ⟨by decide +kernel, rfl⟩
theorem d_Mod_isDeed_9 : zd_b b_Mod_isDeed 9 (.if_icmp .ge) 12 16 := ⟨7, by decide +kernel, by decide, rfl⟩
theorem d_Mod_isDeed_12 : zd_k b_Mod_isDeed "SameTuesdayModel" 12 1 13 := Or.inl ⟨1, by decide +kernel, by decide, rfl⟩
theorem d_Mod_isDeed_13 : zd_b b_Mod_isDeed 13 .goto 16 17 := ⟨4, by decide +kernel, by decide, rfl⟩
theorem d_Mod_isDeed_16 : zd_k b_Mod_isDeed "SameTuesdayModel" 16 0 17 := Or.inl ⟨0, by decide +kernel, by decide, rfl⟩
theorem d_Mod_isDeed_17 : zd b_Mod_isDeed 17 .ireturn 1 18 := ⟨by decide +kernel, rfl⟩
theorem d_Mod_digit_0 : zd_l .aload_n .aload b_Mod_digit 0 0 1 := Or.inl ⟨0, rfl, by decide +kernel, rfl⟩
theorem d_Mod_digit_1 : zd b_Mod_digit 1 (.getfield 93) 3 4 := ⟨by decide +kernel, rfl⟩
theorem d_Mod_digit_4 : zd_l .iload_n .iload b_Mod_digit 4 1 5 := Or.inl ⟨1, rfl, by decide +kernel, rfl⟩
theorem d_Mod_digit_5 : zd_b b_Mod_digit 5 (.if_icmp .ge) 8 31 := ⟨26, by decide +kernel, by decide, rfl⟩
theorem d_Mod_digit_8 : zd_l .aload_n .aload b_Mod_digit 8 0 9 := Or.inl ⟨0, rfl, by decide +kernel, rfl⟩
theorem d_Mod_digit_9 : zd b_Mod_digit 9 (.getfield 16) 3 12 := ⟨by decide +kernel, rfl⟩
theorem d_Mod_digit_12 : zd_l .aload_n .aload b_Mod_digit 12 0 13 := Or.inl ⟨0, rfl, by decide +kernel, rfl⟩
theorem d_Mod_digit_13 : zd b_Mod_digit 13 (.getfield 93) 3 16 := ⟨by decide +kernel, rfl⟩
theorem d_Mod_digit_16 : zd b_Mod_digit 16 .iaload 1 17 := ⟨by decide +kernel, rfl⟩
theorem d_Mod_digit_17 : zd_k b_Mod_digit "SameTuesdayModel" 17 48 19 := Or.inr (Or.inl ⟨48, by decide +kernel, by decide, rfl⟩)
theorem d_Mod_digit_19 : zd_l .iload_n .iload b_Mod_digit 19 2 20 := Or.inl ⟨2, rfl, by decide +kernel, rfl⟩
theorem d_Mod_digit_20 : zd b_Mod_digit 20 .iadd 1 21 := ⟨by decide +kernel, rfl⟩
theorem d_Mod_digit_21 : zd_k b_Mod_digit "SameTuesdayModel" 21 48 23 := Or.inr (Or.inl ⟨48, by decide +kernel, by decide, rfl⟩)
theorem d_Mod_digit_23 : zd_l .iload_n .iload b_Mod_digit 23 3 24 := Or.inl ⟨3, rfl, by decide +kernel, rfl⟩
theorem d_Mod_digit_24 : zd b_Mod_digit 24 .iadd 1 25 := ⟨by decide +kernel, rfl⟩
theorem d_Mod_digit_25 : zd b_Mod_digit 25 (.invokestatic 83) 3 28 := ⟨by decide +kernel, rfl⟩
theorem d_Mod_digit_28 : zd_b b_Mod_digit 28 (.ifCond .ne) 31 34 := ⟨6, by decide +kernel, by decide, rfl⟩
theorem d_Mod_digit_31 : zd_k b_Mod_digit "SameTuesdayModel" 31 (-9) 33 := Or.inr (Or.inl ⟨(-9), by decide +kernel, by decide, rfl⟩)
theorem d_Mod_digit_33 : zd b_Mod_digit 33 .ireturn 1 34 := ⟨by decide +kernel, rfl⟩
theorem d_Mod_digit_34 : zd_l .aload_n .aload b_Mod_digit 34 0 35 := Or.inl ⟨0, rfl, by decide +kernel, rfl⟩
theorem d_Mod_digit_35 : zd b_Mod_digit 35 .dup 1 36 := ⟨by decide +kernel, rfl⟩
theorem d_Mod_digit_36 : zd b_Mod_digit 36 (.getfield 93) 3 39 := ⟨by decide +kernel, rfl⟩
theorem d_Mod_digit_39 : zd_k b_Mod_digit "SameTuesdayModel" 39 1 40 := Or.inl ⟨1, by decide +kernel, by decide, rfl⟩
theorem d_Mod_digit_40 : zd b_Mod_digit 40 .iadd 1 41 := ⟨by decide +kernel, rfl⟩
theorem d_Mod_digit_41 : zd b_Mod_digit 41 (.putfield 93) 3 44 := ⟨by decide +kernel, rfl⟩
theorem d_Mod_digit_44 : zd_l .aload_n .aload b_Mod_digit 44 0 45 := Or.inl ⟨0, rfl, by decide +kernel, rfl⟩
theorem d_Mod_digit_45 : zd b_Mod_digit 45 (.getfield 16) 3 48 := ⟨by decide +kernel, rfl⟩
theorem d_Mod_digit_48 : zd_l .aload_n .aload b_Mod_digit 48 0 49 := Or.inl ⟨0, rfl, by decide +kernel, rfl⟩
theorem d_Mod_digit_49 : zd b_Mod_digit 49 (.getfield 93) 3 52 := ⟨by decide +kernel, rfl⟩
theorem d_Mod_digit_52 : zd_k b_Mod_digit "SameTuesdayModel" 52 1 53 := Or.inl ⟨1, by decide +kernel, by decide, rfl⟩
theorem d_Mod_digit_53 : zd b_Mod_digit 53 .isub 1 54 := ⟨by decide +kernel, rfl⟩
theorem d_Mod_digit_54 : zd b_Mod_digit 54 .iaload 1 55 := ⟨by decide +kernel, rfl⟩
theorem d_Mod_digit_55 : zd_k b_Mod_digit "SameTuesdayModel" 55 48 57 := Or.inr (Or.inl ⟨48, by decide +kernel, by decide, rfl⟩)
theorem d_Mod_digit_57 : zd b_Mod_digit 57 .isub 1 58 := ⟨by decide +kernel, rfl⟩
theorem d_Mod_digit_58 : zd b_Mod_digit 58 .ireturn 1 59 := ⟨by decide +kernel, rfl⟩
theorem d_Mod_tuesday_0 : zd_l .aload_n .aload b_Mod_tuesday 0 0 1 := Or.inl ⟨0, rfl, by decide +kernel, rfl⟩
theorem d_Mod_tuesday_1 : zd_k b_Mod_tuesday "SameTuesdayModel" 1 0 2 := Or.inl ⟨0, by decide +kernel, by decide, rfl⟩
theorem d_Mod_tuesday_2 : zd b_Mod_tuesday 2 (.putfield 78) 3 5 := ⟨by decide +kernel, rfl⟩
theorem d_Mod_tuesday_5 : zd_l .iload_n .iload b_Mod_tuesday 5 1 6 := Or.inl ⟨1, rfl, by decide +kernel, rfl⟩
theorem d_Mod_tuesday_6 : zd b_Mod_tuesday 6 (.invokestatic 96) 3 9 := ⟨by decide +kernel, rfl⟩
theorem d_Mod_tuesday_9 : zd_b b_Mod_tuesday 9 (.ifCond .ne) 12 14 := ⟨5, by decide +kernel, by decide, rfl⟩
theorem d_Mod_tuesday_12 : zd_k b_Mod_tuesday "SameTuesdayModel" 12 (-1) 13 := Or.inl ⟨(-1), by decide +kernel, by decide, rfl⟩
theorem d_Mod_tuesday_13 : zd b_Mod_tuesday 13 .ireturn 1 14 := ⟨by decide +kernel, rfl⟩
theorem d_Mod_tuesday_14 : zd_l .iload_n .iload b_Mod_tuesday 14 2 15 := Or.inl ⟨2, rfl, by decide +kernel, rfl⟩
theorem d_Mod_tuesday_15 : zd b_Mod_tuesday 15 (.invokestatic 100) 3 18 := ⟨by decide +kernel, rfl⟩
theorem d_Mod_tuesday_18 : zd_b b_Mod_tuesday 18 (.ifCond .ne) 21 24 := ⟨6, by decide +kernel, by decide, rfl⟩
theorem d_Mod_tuesday_21 : zd_k b_Mod_tuesday "SameTuesdayModel" 21 (-2) 23 := Or.inr (Or.inl ⟨(-2), by decide +kernel, by decide, rfl⟩)
theorem d_Mod_tuesday_23 : zd b_Mod_tuesday 23 .ireturn 1 24 := ⟨by decide +kernel, rfl⟩
theorem d_Mod_tuesday_24 : zd_l .aload_n .aload b_Mod_tuesday 24 0 25 := Or.inl ⟨0, rfl, by decide +kernel, rfl⟩
theorem d_Mod_tuesday_25 : zd_l .iload_n .iload b_Mod_tuesday 25 1 26 := Or.inl ⟨1, rfl, by decide +kernel, rfl⟩
theorem d_Mod_tuesday_26 : zd_l .iload_n .iload b_Mod_tuesday 26 2 27 := Or.inl ⟨2, rfl, by decide +kernel, rfl⟩
theorem d_Mod_tuesday_27 : zd_l .iload_n .iload b_Mod_tuesday 27 3 28 := Or.inl ⟨3, rfl, by decide +kernel, rfl⟩
theorem d_Mod_tuesday_28 : zd_l .iload_n .iload b_Mod_tuesday 28 4 30 := Or.inr ⟨by decide +kernel, rfl⟩
theorem d_Mod_tuesday_30 : zd b_Mod_tuesday 30 (.invokevirtual 103) 3 33 := ⟨by decide +kernel, rfl⟩
theorem d_Mod_tuesday_33 : zd_l .istore_n .istore b_Mod_tuesday 33 5 35 := Or.inr ⟨by decide +kernel, rfl⟩
theorem d_Mod_tuesday_35 : zd_l .iload_n .iload b_Mod_tuesday 35 5 37 := Or.inr ⟨by decide +kernel, rfl⟩
theorem d_Mod_tuesday_37 : zd_b b_Mod_tuesday 37 (.ifCond .eq) 40 47 := ⟨10, by decide +kernel, by decide, rfl⟩
theorem d_Mod_tuesday_40 : zd_l .aload_n .aload b_Mod_tuesday 40 0 41 := Or.inl ⟨0, rfl, by decide +kernel, rfl⟩
theorem d_Mod_tuesday_41 : zd_l .iload_n .iload b_Mod_tuesday 41 5 43 := Or.inr ⟨by decide +kernel, rfl⟩
theorem d_Mod_tuesday_43 : zd b_Mod_tuesday 43 (.invokevirtual 107) 3 46 := ⟨by decide +kernel, rfl⟩
theorem d_Mod_tuesday_46 : zd b_Mod_tuesday 46 .ireturn 1 47 := ⟨by decide +kernel, rfl⟩
theorem d_Mod_tuesday_47 : zd_k b_Mod_tuesday "SameTuesdayModel" 47 60 49 := Or.inr (Or.inl ⟨60, by decide +kernel, by decide, rfl⟩)
theorem d_Mod_tuesday_49 : zd_l .iload_n .iload b_Mod_tuesday 49 1 50 := Or.inl ⟨1, rfl, by decide +kernel, rfl⟩
theorem d_Mod_tuesday_50 : zd b_Mod_tuesday 50 .imul 1 51 := ⟨by decide +kernel, rfl⟩
theorem d_Mod_tuesday_51 : zd_l .iload_n .iload b_Mod_tuesday 51 3 52 := Or.inl ⟨3, rfl, by decide +kernel, rfl⟩
theorem d_Mod_tuesday_52 : zd b_Mod_tuesday 52 .iadd 1 53 := ⟨by decide +kernel, rfl⟩
theorem d_Mod_tuesday_53 : zd_l .istore_n .istore b_Mod_tuesday 53 6 55 := Or.inr ⟨by decide +kernel, rfl⟩
theorem d_Mod_tuesday_55 : zd_l .aload_n .aload b_Mod_tuesday 55 0 56 := Or.inl ⟨0, rfl, by decide +kernel, rfl⟩
theorem d_Mod_tuesday_56 : zd_l .iload_n .iload b_Mod_tuesday 56 6 58 := Or.inr ⟨by decide +kernel, rfl⟩
theorem d_Mod_tuesday_58 : zd b_Mod_tuesday 58 (.putfield 93) 3 61 := ⟨by decide +kernel, rfl⟩
theorem d_Mod_tuesday_61 : zd_l .aload_n .aload b_Mod_tuesday 61 0 62 := Or.inl ⟨0, rfl, by decide +kernel, rfl⟩
theorem d_Mod_tuesday_62 : zd_l .iload_n .iload b_Mod_tuesday 62 6 64 := Or.inr ⟨by decide +kernel, rfl⟩
theorem d_Mod_tuesday_64 : zd_l .iload_n .iload b_Mod_tuesday 64 4 66 := Or.inr ⟨by decide +kernel, rfl⟩
theorem d_Mod_tuesday_66 : zd b_Mod_tuesday 66 .iadd 1 67 := ⟨by decide +kernel, rfl⟩
theorem d_Mod_tuesday_67 : zd b_Mod_tuesday 67 (.invokevirtual 111) 3 70 := ⟨by decide +kernel, rfl⟩
theorem d_Mod_tuesday_70 : zd_b b_Mod_tuesday 70 (.ifCond .ne) 73 84 := ⟨14, by decide +kernel, by decide, rfl⟩
theorem d_Mod_tuesday_73 : zd_k b_Mod_tuesday "SameTuesdayModel" 73 (-100) 75 := Or.inr (Or.inl ⟨(-100), by decide +kernel, by decide, rfl⟩)
theorem d_Mod_tuesday_75 : zd_l .aload_n .aload b_Mod_tuesday 75 0 76 := Or.inl ⟨0, rfl, by decide +kernel, rfl⟩
theorem d_Mod_tuesday_76 : zd b_Mod_tuesday 76 (.getfield 93) 3 79 := ⟨by decide +kernel, rfl⟩
theorem d_Mod_tuesday_79 : zd_l .iload_n .iload b_Mod_tuesday 79 6 81 := Or.inr ⟨by decide +kernel, rfl⟩
theorem d_Mod_tuesday_81 : zd b_Mod_tuesday 81 .isub 1 82 := ⟨by decide +kernel, rfl⟩
theorem d_Mod_tuesday_82 : zd b_Mod_tuesday 82 .isub 1 83 := ⟨by decide +kernel, rfl⟩
theorem d_Mod_tuesday_83 : zd b_Mod_tuesday 83 .ireturn 1 84 := ⟨by decide +kernel, rfl⟩
theorem d_Mod_tuesday_84 : zd_l .aload_n .aload b_Mod_tuesday 84 0 85 := Or.inl ⟨0, rfl, by decide +kernel, rfl⟩
theorem d_Mod_tuesday_85 : zd_l .aload_n .aload b_Mod_tuesday 85 0 86 := Or.inl ⟨0, rfl, by decide +kernel, rfl⟩
theorem d_Mod_tuesday_86 : zd b_Mod_tuesday 86 (.getfield 114) 3 89 := ⟨by decide +kernel, rfl⟩
theorem d_Mod_tuesday_89 : zd b_Mod_tuesday 89 (.putfield 87) 3 92 := ⟨by decide +kernel, rfl⟩
theorem d_Mod_tuesday_92 : zd_l .aload_n .aload b_Mod_tuesday 92 0 93 := Or.inl ⟨0, rfl, by decide +kernel, rfl⟩
theorem d_Mod_tuesday_93 : zd_l .aload_n .aload b_Mod_tuesday 93 0 94 := Or.inl ⟨0, rfl, by decide +kernel, rfl⟩
theorem d_Mod_tuesday_94 : zd b_Mod_tuesday 94 (.getfield 117) 3 97 := ⟨by decide +kernel, rfl⟩
theorem d_Mod_tuesday_97 : zd b_Mod_tuesday 97 (.putfield 90) 3 100 := ⟨by decide +kernel, rfl⟩
theorem d_Mod_tuesday_100 : zd_k b_Mod_tuesday "SameTuesdayModel" 100 0 101 := Or.inl ⟨0, by decide +kernel, by decide, rfl⟩
theorem d_Mod_tuesday_101 : zd_l .istore_n .istore b_Mod_tuesday 101 7 103 := Or.inr ⟨by decide +kernel, rfl⟩
theorem d_Mod_tuesday_103 : zd_l .iload_n .iload b_Mod_tuesday 103 7 105 := Or.inr ⟨by decide +kernel, rfl⟩
theorem d_Mod_tuesday_105 : zd_l .aload_n .aload b_Mod_tuesday 105 0 106 := Or.inl ⟨0, rfl, by decide +kernel, rfl⟩
theorem d_Mod_tuesday_106 : zd b_Mod_tuesday 106 (.getfield 87) 3 109 := ⟨by decide +kernel, rfl⟩
theorem d_Mod_tuesday_109 : zd_b b_Mod_tuesday 109 (.if_icmp .ge) 112 188 := ⟨79, by decide +kernel, by decide, rfl⟩
theorem d_Mod_tuesday_112 : zd_l .aload_n .aload b_Mod_tuesday 112 0 113 := Or.inl ⟨0, rfl, by decide +kernel, rfl⟩
theorem d_Mod_tuesday_113 : zd b_Mod_tuesday 113 (.getfield 19) 3 116 := ⟨by decide +kernel, rfl⟩
theorem d_Mod_tuesday_116 : zd_l .iload_n .iload b_Mod_tuesday 116 7 118 := Or.inr ⟨by decide +kernel, rfl⟩
theorem d_Mod_tuesday_118 : zd_l .aload_n .aload b_Mod_tuesday 118 0 119 := Or.inl ⟨0, rfl, by decide +kernel, rfl⟩
theorem d_Mod_tuesday_119 : zd b_Mod_tuesday 119 (.getfield 43) 3 122 := ⟨by decide +kernel, rfl⟩
theorem d_Mod_tuesday_122 : zd_k b_Mod_tuesday "SameTuesdayModel" 122 4 123 := Or.inl ⟨4, by decide +kernel, by decide, rfl⟩
theorem d_Mod_tuesday_123 : zd_l .iload_n .iload b_Mod_tuesday 123 7 125 := Or.inr ⟨by decide +kernel, rfl⟩
theorem d_Mod_tuesday_125 : zd b_Mod_tuesday 125 .imul 1 126 := ⟨by decide +kernel, rfl⟩
theorem d_Mod_tuesday_126 : zd b_Mod_tuesday 126 .iaload 1 127 := ⟨by decide +kernel, rfl⟩
theorem d_Mod_tuesday_127 : zd b_Mod_tuesday 127 .iastore 1 128 := ⟨by decide +kernel, rfl⟩
theorem d_Mod_tuesday_128 : zd_l .aload_n .aload b_Mod_tuesday 128 0 129 := Or.inl ⟨0, rfl, by decide +kernel, rfl⟩
theorem d_Mod_tuesday_129 : zd b_Mod_tuesday 129 (.getfield 22) 3 132 := ⟨by decide +kernel, rfl⟩
theorem d_Mod_tuesday_132 : zd_l .iload_n .iload b_Mod_tuesday 132 7 134 := Or.inr ⟨by decide +kernel, rfl⟩
theorem d_Mod_tuesday_134 : zd_l .aload_n .aload b_Mod_tuesday 134 0 135 := Or.inl ⟨0, rfl, by decide +kernel, rfl⟩
theorem d_Mod_tuesday_135 : zd b_Mod_tuesday 135 (.getfield 43) 3 138 := ⟨by decide +kernel, rfl⟩
theorem d_Mod_tuesday_138 : zd_k b_Mod_tuesday "SameTuesdayModel" 138 4 139 := Or.inl ⟨4, by decide +kernel, by decide, rfl⟩
theorem d_Mod_tuesday_139 : zd_l .iload_n .iload b_Mod_tuesday 139 7 141 := Or.inr ⟨by decide +kernel, rfl⟩
theorem d_Mod_tuesday_141 : zd b_Mod_tuesday 141 .imul 1 142 := ⟨by decide +kernel, rfl⟩
theorem d_Mod_tuesday_142 : zd_k b_Mod_tuesday "SameTuesdayModel" 142 1 143 := Or.inl ⟨1, by decide +kernel, by decide, rfl⟩
theorem d_Mod_tuesday_143 : zd b_Mod_tuesday 143 .iadd 1 144 := ⟨by decide +kernel, rfl⟩
theorem d_Mod_tuesday_144 : zd b_Mod_tuesday 144 .iaload 1 145 := ⟨by decide +kernel, rfl⟩
theorem d_Mod_tuesday_145 : zd b_Mod_tuesday 145 .iastore 1 146 := ⟨by decide +kernel, rfl⟩
theorem d_Mod_tuesday_146 : zd_l .aload_n .aload b_Mod_tuesday 146 0 147 := Or.inl ⟨0, rfl, by decide +kernel, rfl⟩
theorem d_Mod_tuesday_147 : zd b_Mod_tuesday 147 (.getfield 25) 3 150 := ⟨by decide +kernel, rfl⟩
theorem d_Mod_tuesday_150 : zd_l .iload_n .iload b_Mod_tuesday 150 7 152 := Or.inr ⟨by decide +kernel, rfl⟩
theorem d_Mod_tuesday_152 : zd_l .aload_n .aload b_Mod_tuesday 152 0 153 := Or.inl ⟨0, rfl, by decide +kernel, rfl⟩
theorem d_Mod_tuesday_153 : zd b_Mod_tuesday 153 (.getfield 43) 3 156 := ⟨by decide +kernel, rfl⟩
theorem d_Mod_tuesday_156 : zd_k b_Mod_tuesday "SameTuesdayModel" 156 4 157 := Or.inl ⟨4, by decide +kernel, by decide, rfl⟩
theorem d_Mod_tuesday_157 : zd_l .iload_n .iload b_Mod_tuesday 157 7 159 := Or.inr ⟨by decide +kernel, rfl⟩
theorem d_Mod_tuesday_159 : zd b_Mod_tuesday 159 .imul 1 160 := ⟨by decide +kernel, rfl⟩
theorem d_Mod_tuesday_160 : zd_k b_Mod_tuesday "SameTuesdayModel" 160 2 161 := Or.inl ⟨2, by decide +kernel, by decide, rfl⟩
theorem d_Mod_tuesday_161 : zd b_Mod_tuesday 161 .iadd 1 162 := ⟨by decide +kernel, rfl⟩
theorem d_Mod_tuesday_162 : zd b_Mod_tuesday 162 .iaload 1 163 := ⟨by decide +kernel, rfl⟩
theorem d_Mod_tuesday_163 : zd b_Mod_tuesday 163 .iastore 1 164 := ⟨by decide +kernel, rfl⟩
theorem d_Mod_tuesday_164 : zd_l .aload_n .aload b_Mod_tuesday 164 0 165 := Or.inl ⟨0, rfl, by decide +kernel, rfl⟩
theorem d_Mod_tuesday_165 : zd b_Mod_tuesday 165 (.getfield 28) 3 168 := ⟨by decide +kernel, rfl⟩
theorem d_Mod_tuesday_168 : zd_l .iload_n .iload b_Mod_tuesday 168 7 170 := Or.inr ⟨by decide +kernel, rfl⟩
theorem d_Mod_tuesday_170 : zd_l .aload_n .aload b_Mod_tuesday 170 0 171 := Or.inl ⟨0, rfl, by decide +kernel, rfl⟩
theorem d_Mod_tuesday_171 : zd b_Mod_tuesday 171 (.getfield 43) 3 174 := ⟨by decide +kernel, rfl⟩
theorem d_Mod_tuesday_174 : zd_k b_Mod_tuesday "SameTuesdayModel" 174 4 175 := Or.inl ⟨4, by decide +kernel, by decide, rfl⟩
theorem d_Mod_tuesday_175 : zd_l .iload_n .iload b_Mod_tuesday 175 7 177 := Or.inr ⟨by decide +kernel, rfl⟩
theorem d_Mod_tuesday_177 : zd b_Mod_tuesday 177 .imul 1 178 := ⟨by decide +kernel, rfl⟩
theorem d_Mod_tuesday_178 : zd_k b_Mod_tuesday "SameTuesdayModel" 178 3 179 := Or.inl ⟨3, by decide +kernel, by decide, rfl⟩
theorem d_Mod_tuesday_179 : zd b_Mod_tuesday 179 .iadd 1 180 := ⟨by decide +kernel, rfl⟩
theorem d_Mod_tuesday_180 : zd b_Mod_tuesday 180 .iaload 1 181 := ⟨by decide +kernel, rfl⟩
theorem d_Mod_tuesday_181 : zd b_Mod_tuesday 181 .iastore 1 182 := ⟨by decide +kernel, rfl⟩
theorem d_Mod_tuesday_182 : zd_i b_Mod_tuesday 182 7 1 1 185 := ⟨by decide +kernel, by decide, rfl⟩
theorem d_Mod_tuesday_185 : zd_b b_Mod_tuesday 185 .goto 188 103 := ⟨(-82), by decide +kernel, by decide, rfl⟩
theorem d_Mod_tuesday_188 : zd_k b_Mod_tuesday "SameTuesdayModel" 188 0 189 := Or.inl ⟨0, by decide +kernel, by decide, rfl⟩
theorem d_Mod_tuesday_189 : zd_l .istore_n .istore b_Mod_tuesday 189 7 191 := Or.inr ⟨by decide +kernel, rfl⟩
theorem d_Mod_tuesday_191 : zd_l .iload_n .iload b_Mod_tuesday 191 7 193 := Or.inr ⟨by decide +kernel, rfl⟩
theorem d_Mod_tuesday_193 : zd_l .aload_n .aload b_Mod_tuesday 193 0 194 := Or.inl ⟨0, rfl, by decide +kernel, rfl⟩
theorem d_Mod_tuesday_194 : zd b_Mod_tuesday 194 (.getfield 90) 3 197 := ⟨by decide +kernel, rfl⟩
theorem d_Mod_tuesday_197 : zd_b b_Mod_tuesday 197 (.if_icmp .ge) 200 276 := ⟨79, by decide +kernel, by decide, rfl⟩
theorem d_Mod_tuesday_200 : zd_l .aload_n .aload b_Mod_tuesday 200 0 201 := Or.inl ⟨0, rfl, by decide +kernel, rfl⟩
theorem d_Mod_tuesday_201 : zd b_Mod_tuesday 201 (.getfield 31) 3 204 := ⟨by decide +kernel, rfl⟩
theorem d_Mod_tuesday_204 : zd_l .iload_n .iload b_Mod_tuesday 204 7 206 := Or.inr ⟨by decide +kernel, rfl⟩
theorem d_Mod_tuesday_206 : zd_l .aload_n .aload b_Mod_tuesday 206 0 207 := Or.inl ⟨0, rfl, by decide +kernel, rfl⟩
theorem d_Mod_tuesday_207 : zd b_Mod_tuesday 207 (.getfield 46) 3 210 := ⟨by decide +kernel, rfl⟩
theorem d_Mod_tuesday_210 : zd_k b_Mod_tuesday "SameTuesdayModel" 210 4 211 := Or.inl ⟨4, by decide +kernel, by decide, rfl⟩
theorem d_Mod_tuesday_211 : zd_l .iload_n .iload b_Mod_tuesday 211 7 213 := Or.inr ⟨by decide +kernel, rfl⟩
theorem d_Mod_tuesday_213 : zd b_Mod_tuesday 213 .imul 1 214 := ⟨by decide +kernel, rfl⟩
theorem d_Mod_tuesday_214 : zd b_Mod_tuesday 214 .iaload 1 215 := ⟨by decide +kernel, rfl⟩
theorem d_Mod_tuesday_215 : zd b_Mod_tuesday 215 .iastore 1 216 := ⟨by decide +kernel, rfl⟩
theorem d_Mod_tuesday_216 : zd_l .aload_n .aload b_Mod_tuesday 216 0 217 := Or.inl ⟨0, rfl, by decide +kernel, rfl⟩
theorem d_Mod_tuesday_217 : zd b_Mod_tuesday 217 (.getfield 34) 3 220 := ⟨by decide +kernel, rfl⟩
theorem d_Mod_tuesday_220 : zd_l .iload_n .iload b_Mod_tuesday 220 7 222 := Or.inr ⟨by decide +kernel, rfl⟩
theorem d_Mod_tuesday_222 : zd_l .aload_n .aload b_Mod_tuesday 222 0 223 := Or.inl ⟨0, rfl, by decide +kernel, rfl⟩
theorem d_Mod_tuesday_223 : zd b_Mod_tuesday 223 (.getfield 46) 3 226 := ⟨by decide +kernel, rfl⟩
theorem d_Mod_tuesday_226 : zd_k b_Mod_tuesday "SameTuesdayModel" 226 4 227 := Or.inl ⟨4, by decide +kernel, by decide, rfl⟩
theorem d_Mod_tuesday_227 : zd_l .iload_n .iload b_Mod_tuesday 227 7 229 := Or.inr ⟨by decide +kernel, rfl⟩
theorem d_Mod_tuesday_229 : zd b_Mod_tuesday 229 .imul 1 230 := ⟨by decide +kernel, rfl⟩
theorem d_Mod_tuesday_230 : zd_k b_Mod_tuesday "SameTuesdayModel" 230 1 231 := Or.inl ⟨1, by decide +kernel, by decide, rfl⟩
theorem d_Mod_tuesday_231 : zd b_Mod_tuesday 231 .iadd 1 232 := ⟨by decide +kernel, rfl⟩
theorem d_Mod_tuesday_232 : zd b_Mod_tuesday 232 .iaload 1 233 := ⟨by decide +kernel, rfl⟩
theorem d_Mod_tuesday_233 : zd b_Mod_tuesday 233 .iastore 1 234 := ⟨by decide +kernel, rfl⟩
theorem d_Mod_tuesday_234 : zd_l .aload_n .aload b_Mod_tuesday 234 0 235 := Or.inl ⟨0, rfl, by decide +kernel, rfl⟩
theorem d_Mod_tuesday_235 : zd b_Mod_tuesday 235 (.getfield 37) 3 238 := ⟨by decide +kernel, rfl⟩
theorem d_Mod_tuesday_238 : zd_l .iload_n .iload b_Mod_tuesday 238 7 240 := Or.inr ⟨by decide +kernel, rfl⟩
theorem d_Mod_tuesday_240 : zd_l .aload_n .aload b_Mod_tuesday 240 0 241 := Or.inl ⟨0, rfl, by decide +kernel, rfl⟩
theorem d_Mod_tuesday_241 : zd b_Mod_tuesday 241 (.getfield 46) 3 244 := ⟨by decide +kernel, rfl⟩
theorem d_Mod_tuesday_244 : zd_k b_Mod_tuesday "SameTuesdayModel" 244 4 245 := Or.inl ⟨4, by decide +kernel, by decide, rfl⟩
theorem d_Mod_tuesday_245 : zd_l .iload_n .iload b_Mod_tuesday 245 7 247 := Or.inr ⟨by decide +kernel, rfl⟩
theorem d_Mod_tuesday_247 : zd b_Mod_tuesday 247 .imul 1 248 := ⟨by decide +kernel, rfl⟩
theorem d_Mod_tuesday_248 : zd_k b_Mod_tuesday "SameTuesdayModel" 248 2 249 := Or.inl ⟨2, by decide +kernel, by decide, rfl⟩
theorem d_Mod_tuesday_249 : zd b_Mod_tuesday 249 .iadd 1 250 := ⟨by decide +kernel, rfl⟩
theorem d_Mod_tuesday_250 : zd b_Mod_tuesday 250 .iaload 1 251 := ⟨by decide +kernel, rfl⟩
theorem d_Mod_tuesday_251 : zd b_Mod_tuesday 251 .iastore 1 252 := ⟨by decide +kernel, rfl⟩
theorem d_Mod_tuesday_252 : zd_l .aload_n .aload b_Mod_tuesday 252 0 253 := Or.inl ⟨0, rfl, by decide +kernel, rfl⟩
theorem d_Mod_tuesday_253 : zd b_Mod_tuesday 253 (.getfield 40) 3 256 := ⟨by decide +kernel, rfl⟩
theorem d_Mod_tuesday_256 : zd_l .iload_n .iload b_Mod_tuesday 256 7 258 := Or.inr ⟨by decide +kernel, rfl⟩
theorem d_Mod_tuesday_258 : zd_l .aload_n .aload b_Mod_tuesday 258 0 259 := Or.inl ⟨0, rfl, by decide +kernel, rfl⟩
theorem d_Mod_tuesday_259 : zd b_Mod_tuesday 259 (.getfield 46) 3 262 := ⟨by decide +kernel, rfl⟩
theorem d_Mod_tuesday_262 : zd_k b_Mod_tuesday "SameTuesdayModel" 262 4 263 := Or.inl ⟨4, by decide +kernel, by decide, rfl⟩
theorem d_Mod_tuesday_263 : zd_l .iload_n .iload b_Mod_tuesday 263 7 265 := Or.inr ⟨by decide +kernel, rfl⟩
theorem d_Mod_tuesday_265 : zd b_Mod_tuesday 265 .imul 1 266 := ⟨by decide +kernel, rfl⟩
theorem d_Mod_tuesday_266 : zd_k b_Mod_tuesday "SameTuesdayModel" 266 3 267 := Or.inl ⟨3, by decide +kernel, by decide, rfl⟩
theorem d_Mod_tuesday_267 : zd b_Mod_tuesday 267 .iadd 1 268 := ⟨by decide +kernel, rfl⟩
theorem d_Mod_tuesday_268 : zd b_Mod_tuesday 268 .iaload 1 269 := ⟨by decide +kernel, rfl⟩
theorem d_Mod_tuesday_269 : zd b_Mod_tuesday 269 .iastore 1 270 := ⟨by decide +kernel, rfl⟩
theorem d_Mod_tuesday_270 : zd_i b_Mod_tuesday 270 7 1 1 273 := ⟨by decide +kernel, by decide, rfl⟩
theorem d_Mod_tuesday_273 : zd_b b_Mod_tuesday 273 .goto 276 191 := ⟨(-82), by decide +kernel, by decide, rfl⟩
theorem d_Mod_tuesday_276 : zd_l .aload_n .aload b_Mod_tuesday 276 0 277 := Or.inl ⟨0, rfl, by decide +kernel, rfl⟩
theorem d_Mod_tuesday_277 : zd_k b_Mod_tuesday "SameTuesdayModel" 277 60 279 := Or.inr (Or.inl ⟨60, by decide +kernel, by decide, rfl⟩)
theorem d_Mod_tuesday_279 : zd b_Mod_tuesday 279 (.putfield 120) 3 282 := ⟨by decide +kernel, rfl⟩
theorem d_Mod_tuesday_282 : zd_l .aload_n .aload b_Mod_tuesday 282 0 283 := Or.inl ⟨0, rfl, by decide +kernel, rfl⟩
theorem d_Mod_tuesday_283 : zd_k b_Mod_tuesday "SameTuesdayModel" 283 0 284 := Or.inl ⟨0, by decide +kernel, by decide, rfl⟩
theorem d_Mod_tuesday_284 : zd b_Mod_tuesday 284 (.putfield 123) 3 287 := ⟨by decide +kernel, rfl⟩
theorem d_Mod_tuesday_287 : zd_l .aload_n .aload b_Mod_tuesday 287 0 288 := Or.inl ⟨0, rfl, by decide +kernel, rfl⟩
theorem d_Mod_tuesday_288 : zd b_Mod_tuesday 288 (.getfield 87) 3 291 := ⟨by decide +kernel, rfl⟩
theorem d_Mod_tuesday_291 : zd b_Mod_tuesday 291 .ireturn 1 292 := ⟨by decide +kernel, rfl⟩
theorem d_Mod_isSign_0 : zd_l .aload_n .aload b_Mod_isSign 0 0 1 := Or.inl ⟨0, rfl, by decide +kernel, rfl⟩
theorem d_Mod_isSign_1 : zd b_Mod_isSign 1 (.getfield 93) 3 4 := ⟨by decide +kernel, rfl⟩
theorem d_Mod_isSign_4 : zd_l .iload_n .iload b_Mod_isSign 4 1 5 := Or.inl ⟨1, rfl, by decide +kernel, rfl⟩
theorem d_Mod_isSign_5 : zd_b b_Mod_isSign 5 (.if_icmp .ge) 8 21 := ⟨16, by decide +kernel, by decide, rfl⟩
theorem d_Mod_isSign_8 : zd_l .aload_n .aload b_Mod_isSign 8 0 9 := Or.inl ⟨0, rfl, by decide +kernel, rfl⟩
theorem d_Mod_isSign_9 : zd b_Mod_isSign 9 (.getfield 16) 3 12 := ⟨by decide +kernel, rfl⟩
theorem d_Mod_isSign_12 : zd_l .aload_n .aload b_Mod_isSign 12 0 13 := Or.inl ⟨0, rfl, by decide +kernel, rfl⟩
theorem d_Mod_isSign_13 : zd b_Mod_isSign 13 (.getfield 93) 3 16 := ⟨by decide +kernel, rfl⟩
theorem d_Mod_isSign_16 : zd b_Mod_isSign 16 .iaload 1 17 := ⟨by decide +kernel, rfl⟩
theorem d_Mod_isSign_17 : zd_l .iload_n .iload b_Mod_isSign 17 2 18 := Or.inl ⟨2, rfl, by decide +kernel, rfl⟩
theorem d_Mod_isSign_18 : zd_b b_Mod_isSign 18 (.if_icmp .eq) 21 23 := ⟨5, by decide +kernel, by decide, rfl⟩
theorem d_Mod_isSign_21 : zd_k b_Mod_isSign "SameTuesdayModel" 21 0 22 := Or.inl ⟨0, by decide +kernel, by decide, rfl⟩
theorem d_Mod_isSign_22 : zd b_Mod_isSign 22 .ireturn 1 23 := ⟨by decide +kernel, rfl⟩
theorem d_Mod_isSign_23 : zd_l .aload_n .aload b_Mod_isSign 23 0 24 := Or.inl ⟨0, rfl, by decide +kernel, rfl⟩
theorem d_Mod_isSign_24 : zd b_Mod_isSign 24 .dup 1 25 := ⟨by decide +kernel, rfl⟩
theorem d_Mod_isSign_25 : zd b_Mod_isSign 25 (.getfield 93) 3 28 := ⟨by decide +kernel, rfl⟩
theorem d_Mod_isSign_28 : zd_k b_Mod_isSign "SameTuesdayModel" 28 1 29 := Or.inl ⟨1, by decide +kernel, by decide, rfl⟩
theorem d_Mod_isSign_29 : zd b_Mod_isSign 29 .iadd 1 30 := ⟨by decide +kernel, rfl⟩
theorem d_Mod_isSign_30 : zd b_Mod_isSign 30 (.putfield 93) 3 33 := ⟨by decide +kernel, rfl⟩
theorem d_Mod_isSign_33 : zd_k b_Mod_isSign "SameTuesdayModel" 33 1 34 := Or.inl ⟨1, by decide +kernel, by decide, rfl⟩
theorem d_Mod_isSign_34 : zd b_Mod_isSign 34 .ireturn 1 35 := ⟨by decide +kernel, rfl⟩
theorem d_Mod_readDay_0 : zd_l .aload_n .aload b_Mod_readDay 0 0 1 := Or.inl ⟨0, rfl, by decide +kernel, rfl⟩
theorem d_Mod_readDay_1 : zd_k b_Mod_readDay "SameTuesdayModel" 1 0 2 := Or.inl ⟨0, by decide +kernel, by decide, rfl⟩
theorem d_Mod_readDay_2 : zd b_Mod_readDay 2 (.putfield 114) 3 5 := ⟨by decide +kernel, rfl⟩
theorem d_Mod_readDay_5 : zd_l .aload_n .aload b_Mod_readDay 5 0 6 := Or.inl ⟨0, rfl, by decide +kernel, rfl⟩
theorem d_Mod_readDay_6 : zd_k b_Mod_readDay "SameTuesdayModel" 6 0 7 := Or.inl ⟨0, by decide +kernel, by decide, rfl⟩
theorem d_Mod_readDay_7 : zd b_Mod_readDay 7 (.putfield 117) 3 10 := ⟨by decide +kernel, rfl⟩
theorem d_Mod_readDay_10 : zd_l .aload_n .aload b_Mod_readDay 10 0 11 := Or.inl ⟨0, rfl, by decide +kernel, rfl⟩
theorem d_Mod_readDay_11 : zd_l .iload_n .iload b_Mod_readDay 11 1 12 := Or.inl ⟨1, rfl, by decide +kernel, rfl⟩
theorem d_Mod_readDay_12 : zd_k b_Mod_readDay "SameTuesdayModel" 12 115 14 := Or.inr (Or.inl ⟨115, by decide +kernel, by decide, rfl⟩)
theorem d_Mod_readDay_14 : zd b_Mod_readDay 14 (.invokevirtual 126) 3 17 := ⟨by decide +kernel, rfl⟩
theorem d_Mod_readDay_17 : zd_b b_Mod_readDay 17 (.ifCond .eq) 20 38 := ⟨21, by decide +kernel, by decide, rfl⟩
theorem d_Mod_readDay_20 : zd_l .aload_n .aload b_Mod_readDay 20 0 21 := Or.inl ⟨0, rfl, by decide +kernel, rfl⟩
theorem d_Mod_readDay_21 : zd_l .iload_n .iload b_Mod_readDay 21 1 22 := Or.inl ⟨1, rfl, by decide +kernel, rfl⟩
theorem d_Mod_readDay_22 : zd_k b_Mod_readDay "SameTuesdayModel" 22 59 24 := Or.inr (Or.inl ⟨59, by decide +kernel, by decide, rfl⟩)
theorem d_Mod_readDay_24 : zd b_Mod_readDay 24 (.invokevirtual 126) 3 27 := ⟨by decide +kernel, rfl⟩
theorem d_Mod_readDay_27 : zd_b b_Mod_readDay 27 (.ifCond .eq) 30 38 := ⟨11, by decide +kernel, by decide, rfl⟩
theorem d_Mod_readDay_30 : zd_l .aload_n .aload b_Mod_readDay 30 0 31 := Or.inl ⟨0, rfl, by decide +kernel, rfl⟩
theorem d_Mod_readDay_31 : zd_l .iload_n .iload b_Mod_readDay 31 1 32 := Or.inl ⟨1, rfl, by decide +kernel, rfl⟩
theorem d_Mod_readDay_32 : zd b_Mod_readDay 32 (.invokevirtual 130) 3 35 := ⟨by decide +kernel, rfl⟩
theorem d_Mod_readDay_35 : zd_b b_Mod_readDay 35 (.ifCond .ne) 38 40 := ⟨5, by decide +kernel, by decide, rfl⟩
theorem d_Mod_readDay_38 : zd_k b_Mod_readDay "SameTuesdayModel" 38 0 39 := Or.inl ⟨0, by decide +kernel, by decide, rfl⟩
theorem d_Mod_readDay_39 : zd b_Mod_readDay 39 .ireturn 1 40 := ⟨by decide +kernel, rfl⟩
theorem d_Mod_readDay_40 : zd_l .aload_n .aload b_Mod_readDay 40 0 41 := Or.inl ⟨0, rfl, by decide +kernel, rfl⟩
theorem d_Mod_readDay_41 : zd b_Mod_readDay 41 (.getfield 114) 3 44 := ⟨by decide +kernel, rfl⟩
theorem d_Mod_readDay_44 : zd_k b_Mod_readDay "SameTuesdayModel" 44 6 46 := Or.inr (Or.inl ⟨6, by decide +kernel, by decide, rfl⟩)
theorem d_Mod_readDay_46 : zd_b b_Mod_readDay 46 (.if_icmp .ge) 49 69 := ⟨23, by decide +kernel, by decide, rfl⟩
theorem d_Mod_readDay_49 : zd_l .aload_n .aload b_Mod_readDay 49 0 50 := Or.inl ⟨0, rfl, by decide +kernel, rfl⟩
theorem d_Mod_readDay_50 : zd_l .iload_n .iload b_Mod_readDay 50 1 51 := Or.inl ⟨1, rfl, by decide +kernel, rfl⟩
theorem d_Mod_readDay_51 : zd_k b_Mod_readDay "SameTuesdayModel" 51 59 53 := Or.inr (Or.inl ⟨59, by decide +kernel, by decide, rfl⟩)
theorem d_Mod_readDay_53 : zd b_Mod_readDay 53 (.invokevirtual 126) 3 56 := ⟨by decide +kernel, rfl⟩
theorem d_Mod_readDay_56 : zd_b b_Mod_readDay 56 (.ifCond .eq) 59 69 := ⟨13, by decide +kernel, by decide, rfl⟩
theorem d_Mod_readDay_59 : zd_l .aload_n .aload b_Mod_readDay 59 0 60 := Or.inl ⟨0, rfl, by decide +kernel, rfl⟩
theorem d_Mod_readDay_60 : zd_l .iload_n .iload b_Mod_readDay 60 1 61 := Or.inl ⟨1, rfl, by decide +kernel, rfl⟩
theorem d_Mod_readDay_61 : zd b_Mod_readDay 61 (.invokevirtual 130) 3 64 := ⟨by decide +kernel, rfl⟩
theorem d_Mod_readDay_64 : zd_b b_Mod_readDay 64 (.ifCond .ne) 67 40 := ⟨(-24), by decide +kernel, by decide, rfl⟩
theorem d_Mod_readDay_67 : zd_k b_Mod_readDay "SameTuesdayModel" 67 0 68 := Or.inl ⟨0, by decide +kernel, by decide, rfl⟩
theorem d_Mod_readDay_68 : zd b_Mod_readDay 68 .ireturn 1 69 := ⟨by decide +kernel, rfl⟩
theorem d_Mod_readDay_69 : zd_l .aload_n .aload b_Mod_readDay 69 0 70 := Or.inl ⟨0, rfl, by decide +kernel, rfl⟩
theorem d_Mod_readDay_70 : zd b_Mod_readDay 70 (.getfield 117) 3 73 := ⟨by decide +kernel, rfl⟩
theorem d_Mod_readDay_73 : zd_k b_Mod_readDay "SameTuesdayModel" 73 5 74 := Or.inl ⟨5, by decide +kernel, by decide, rfl⟩
theorem d_Mod_readDay_74 : zd_b b_Mod_readDay 74 (.if_icmp .ge) 77 97 := ⟨23, by decide +kernel, by decide, rfl⟩
theorem d_Mod_readDay_77 : zd_l .aload_n .aload b_Mod_readDay 77 0 78 := Or.inl ⟨0, rfl, by decide +kernel, rfl⟩
theorem d_Mod_readDay_78 : zd_l .iload_n .iload b_Mod_readDay 78 1 79 := Or.inl ⟨1, rfl, by decide +kernel, rfl⟩
theorem d_Mod_readDay_79 : zd_k b_Mod_readDay "SameTuesdayModel" 79 44 81 := Or.inr (Or.inl ⟨44, by decide +kernel, by decide, rfl⟩)
theorem d_Mod_readDay_81 : zd b_Mod_readDay 81 (.invokevirtual 126) 3 84 := ⟨by decide +kernel, rfl⟩
theorem d_Mod_readDay_84 : zd_b b_Mod_readDay 84 (.ifCond .eq) 87 97 := ⟨13, by decide +kernel, by decide, rfl⟩
theorem d_Mod_readDay_87 : zd_l .aload_n .aload b_Mod_readDay 87 0 88 := Or.inl ⟨0, rfl, by decide +kernel, rfl⟩
theorem d_Mod_readDay_88 : zd_l .iload_n .iload b_Mod_readDay 88 1 89 := Or.inl ⟨1, rfl, by decide +kernel, rfl⟩
theorem d_Mod_readDay_89 : zd b_Mod_readDay 89 (.invokevirtual 133) 3 92 := ⟨by decide +kernel, rfl⟩
theorem d_Mod_readDay_92 : zd_b b_Mod_readDay 92 (.ifCond .ne) 95 69 := ⟨(-23), by decide +kernel, by decide, rfl⟩
theorem d_Mod_readDay_95 : zd_k b_Mod_readDay "SameTuesdayModel" 95 0 96 := Or.inl ⟨0, by decide +kernel, by decide, rfl⟩
theorem d_Mod_readDay_96 : zd b_Mod_readDay 96 .ireturn 1 97 := ⟨by decide +kernel, rfl⟩
theorem d_Mod_readDay_97 : zd_l .aload_n .aload b_Mod_readDay 97 0 98 := Or.inl ⟨0, rfl, by decide +kernel, rfl⟩
theorem d_Mod_readDay_98 : zd b_Mod_readDay 98 (.getfield 93) 3 101 := ⟨by decide +kernel, rfl⟩
theorem d_Mod_readDay_101 : zd_l .iload_n .iload b_Mod_readDay 101 1 102 := Or.inl ⟨1, rfl, by decide +kernel, rfl⟩
theorem d_Mod_readDay_102 : zd_b b_Mod_readDay 102 (.if_icmp .ne) 105 109 := ⟨7, by decide +kernel, by decide, rfl⟩
theorem d_Mod_readDay_105 : zd_k b_Mod_readDay "SameTuesdayModel" 105 1 106 := Or.inl ⟨1, by decide +kernel, by decide, rfl⟩
theorem d_Mod_readDay_106 : zd_b b_Mod_readDay 106 .goto 109 110 := ⟨4, by decide +kernel, by decide, rfl⟩
theorem d_Mod_readDay_109 : zd_k b_Mod_readDay "SameTuesdayModel" 109 0 110 := Or.inl ⟨0, by decide +kernel, by decide, rfl⟩
theorem d_Mod_readDay_110 : zd b_Mod_readDay 110 .ireturn 1 111 := ⟨by decide +kernel, rfl⟩
theorem d_Mod_readHappening_0 : zd_k b_Mod_readHappening "SameTuesdayModel" 0 4 1 := Or.inl ⟨4, by decide +kernel, by decide, rfl⟩
theorem d_Mod_readHappening_1 : zd_l .aload_n .aload b_Mod_readHappening 1 0 2 := Or.inl ⟨0, rfl, by decide +kernel, rfl⟩
theorem d_Mod_readHappening_2 : zd b_Mod_readHappening 2 (.getfield 114) 3 5 := ⟨by decide +kernel, rfl⟩
theorem d_Mod_readHappening_5 : zd b_Mod_readHappening 5 .imul 1 6 := ⟨by decide +kernel, rfl⟩
theorem d_Mod_readHappening_6 : zd_l .istore_n .istore b_Mod_readHappening 6 2 7 := Or.inl ⟨2, rfl, by decide +kernel, rfl⟩
theorem d_Mod_readHappening_7 : zd_l .aload_n .aload b_Mod_readHappening 7 0 8 := Or.inl ⟨0, rfl, by decide +kernel, rfl⟩
theorem d_Mod_readHappening_8 : zd b_Mod_readHappening 8 (.getfield 93) 3 11 := ⟨by decide +kernel, rfl⟩
theorem d_Mod_readHappening_11 : zd_l .iload_n .iload b_Mod_readHappening 11 1 12 := Or.inl ⟨1, rfl, by decide +kernel, rfl⟩
theorem d_Mod_readHappening_12 : zd_b b_Mod_readHappening 12 (.if_icmp .ge) 15 27 := ⟨15, by decide +kernel, by decide, rfl⟩
theorem d_Mod_readHappening_15 : zd_l .aload_n .aload b_Mod_readHappening 15 0 16 := Or.inl ⟨0, rfl, by decide +kernel, rfl⟩
theorem d_Mod_readHappening_16 : zd b_Mod_readHappening 16 (.getfield 16) 3 19 := ⟨by decide +kernel, rfl⟩
theorem d_Mod_readHappening_19 : zd_l .aload_n .aload b_Mod_readHappening 19 0 20 := Or.inl ⟨0, rfl, by decide +kernel, rfl⟩
theorem d_Mod_readHappening_20 : zd b_Mod_readHappening 20 (.getfield 93) 3 23 := ⟨by decide +kernel, rfl⟩
theorem d_Mod_readHappening_23 : zd b_Mod_readHappening 23 .iaload 1 24 := ⟨by decide +kernel, rfl⟩
theorem d_Mod_readHappening_24 : zd_b b_Mod_readHappening 24 .goto 27 28 := ⟨4, by decide +kernel, by decide, rfl⟩
theorem d_Mod_readHappening_27 : zd_k b_Mod_readHappening "SameTuesdayModel" 27 0 28 := Or.inl ⟨0, by decide +kernel, by decide, rfl⟩
theorem d_Mod_readHappening_28 : zd_l .istore_n .istore b_Mod_readHappening 28 3 29 := Or.inl ⟨3, rfl, by decide +kernel, rfl⟩
theorem d_Mod_readHappening_29 : zd_l .aload_n .aload b_Mod_readHappening 29 0 30 := Or.inl ⟨0, rfl, by decide +kernel, rfl⟩
theorem d_Mod_readHappening_30 : zd b_Mod_readHappening 30 (.getfield 43) 3 33 := ⟨by decide +kernel, rfl⟩
theorem d_Mod_readHappening_33 : zd_l .iload_n .iload b_Mod_readHappening 33 2 34 := Or.inl ⟨2, rfl, by decide +kernel, rfl⟩
theorem d_Mod_readHappening_34 : zd_l .iload_n .iload b_Mod_readHappening 34 3 35 := Or.inl ⟨3, rfl, by decide +kernel, rfl⟩
theorem d_Mod_readHappening_35 : zd_k b_Mod_readHappening "SameTuesdayModel" 35 104 37 := Or.inr (Or.inl ⟨104, by decide +kernel, by decide, rfl⟩)
theorem d_Mod_readHappening_37 : zd_b b_Mod_readHappening 37 (.if_icmp .ne) 40 44 := ⟨7, by decide +kernel, by decide, rfl⟩
theorem d_Mod_readHappening_40 : zd_k b_Mod_readHappening "SameTuesdayModel" 40 0 41 := Or.inl ⟨0, by decide +kernel, by decide, rfl⟩
theorem d_Mod_readHappening_41 : zd_b b_Mod_readHappening 41 .goto 44 66 := ⟨25, by decide +kernel, by decide, rfl⟩
theorem d_Mod_readHappening_44 : zd_l .iload_n .iload b_Mod_readHappening 44 3 45 := Or.inl ⟨3, rfl, by decide +kernel, rfl⟩
theorem d_Mod_readHappening_45 : zd_k b_Mod_readHappening "SameTuesdayModel" 45 109 47 := Or.inr (Or.inl ⟨109, by decide +kernel, by decide, rfl⟩)
theorem d_Mod_readHappening_47 : zd_b b_Mod_readHappening 47 (.if_icmp .ne) 50 54 := ⟨7, by decide +kernel, by decide, rfl⟩
theorem d_Mod_readHappening_50 : zd_k b_Mod_readHappening "SameTuesdayModel" 50 1 51 := Or.inl ⟨1, by decide +kernel, by decide, rfl⟩
theorem d_Mod_readHappening_51 : zd_b b_Mod_readHappening 51 .goto 54 66 := ⟨15, by decide +kernel, by decide, rfl⟩
theorem d_Mod_readHappening_54 : zd_l .iload_n .iload b_Mod_readHappening 54 3 55 := Or.inl ⟨3, rfl, by decide +kernel, rfl⟩
theorem d_Mod_readHappening_55 : zd_k b_Mod_readHappening "SameTuesdayModel" 55 99 57 := Or.inr (Or.inl ⟨99, by decide +kernel, by decide, rfl⟩)
theorem d_Mod_readHappening_57 : zd_b b_Mod_readHappening 57 (.if_icmp .ne) 60 64 := ⟨7, by decide +kernel, by decide, rfl⟩
theorem d_Mod_readHappening_60 : zd_k b_Mod_readHappening "SameTuesdayModel" 60 2 61 := Or.inl ⟨2, by decide +kernel, by decide, rfl⟩
theorem d_Mod_readHappening_61 : zd_b b_Mod_readHappening 61 .goto 64 66 := ⟨5, by decide +kernel, by decide, rfl⟩
theorem d_Mod_readHappening_64 : zd_k b_Mod_readHappening "SameTuesdayModel" 64 (-9) 66 := Or.inr (Or.inl ⟨(-9), by decide +kernel, by decide, rfl⟩)
theorem d_Mod_readHappening_66 : zd b_Mod_readHappening 66 .iastore 1 67 := ⟨by decide +kernel, rfl⟩
theorem d_Mod_readHappening_67 : zd_l .aload_n .aload b_Mod_readHappening 67 0 68 := Or.inl ⟨0, rfl, by decide +kernel, rfl⟩
theorem d_Mod_readHappening_68 : zd b_Mod_readHappening 68 (.getfield 43) 3 71 := ⟨by decide +kernel, rfl⟩
theorem d_Mod_readHappening_71 : zd_l .iload_n .iload b_Mod_readHappening 71 2 72 := Or.inl ⟨2, rfl, by decide +kernel, rfl⟩
theorem d_Mod_readHappening_72 : zd b_Mod_readHappening 72 .iaload 1 73 := ⟨by decide +kernel, rfl⟩
theorem d_Mod_readHappening_73 : zd_k b_Mod_readHappening "SameTuesdayModel" 73 (-9) 75 := Or.inr (Or.inl ⟨(-9), by decide +kernel, by decide, rfl⟩)
theorem d_Mod_readHappening_75 : zd_b b_Mod_readHappening 75 (.if_icmp .ne) 78 80 := ⟨5, by decide +kernel, by decide, rfl⟩
theorem d_Mod_readHappening_78 : zd_k b_Mod_readHappening "SameTuesdayModel" 78 0 79 := Or.inl ⟨0, by decide +kernel, by decide, rfl⟩
theorem d_Mod_readHappening_79 : zd b_Mod_readHappening 79 .ireturn 1 80 := ⟨by decide +kernel, rfl⟩
theorem d_Mod_readHappening_80 : zd_l .aload_n .aload b_Mod_readHappening 80 0 81 := Or.inl ⟨0, rfl, by decide +kernel, rfl⟩
theorem d_Mod_readHappening_81 : zd b_Mod_readHappening 81 .dup 1 82 := ⟨by decide +kernel, rfl⟩
theorem d_Mod_readHappening_82 : zd b_Mod_readHappening 82 (.getfield 93) 3 85 := ⟨by decide +kernel, rfl⟩
theorem d_Mod_readHappening_85 : zd_k b_Mod_readHappening "SameTuesdayModel" 85 1 86 := Or.inl ⟨1, by decide +kernel, by decide, rfl⟩
theorem d_Mod_readHappening_86 : zd b_Mod_readHappening 86 .iadd 1 87 := ⟨by decide +kernel, rfl⟩
theorem d_Mod_readHappening_87 : zd b_Mod_readHappening 87 (.putfield 93) 3 90 := ⟨by decide +kernel, rfl⟩
theorem d_Mod_readHappening_90 : zd_l .aload_n .aload b_Mod_readHappening 90 0 91 := Or.inl ⟨0, rfl, by decide +kernel, rfl⟩
theorem d_Mod_readHappening_91 : zd_l .iload_n .iload b_Mod_readHappening 91 1 92 := Or.inl ⟨1, rfl, by decide +kernel, rfl⟩
theorem d_Mod_readHappening_92 : zd_k b_Mod_readHappening "SameTuesdayModel" 92 0 93 := Or.inl ⟨0, by decide +kernel, by decide, rfl⟩
theorem d_Mod_readHappening_93 : zd_k b_Mod_readHappening "SameTuesdayModel" 93 5 94 := Or.inl ⟨5, by decide +kernel, by decide, rfl⟩
theorem d_Mod_readHappening_94 : zd b_Mod_readHappening 94 (.invokevirtual 136) 3 97 := ⟨by decide +kernel, rfl⟩
theorem d_Mod_readHappening_97 : zd_l .istore_n .istore b_Mod_readHappening 97 4 99 := Or.inr ⟨by decide +kernel, rfl⟩
theorem d_Mod_readHappening_99 : zd_l .iload_n .iload b_Mod_readHappening 99 4 101 := Or.inr ⟨by decide +kernel, rfl⟩
theorem d_Mod_readHappening_101 : zd_k b_Mod_readHappening "SameTuesdayModel" 101 (-9) 103 := Or.inr (Or.inl ⟨(-9), by decide +kernel, by decide, rfl⟩)
theorem d_Mod_readHappening_103 : zd_b b_Mod_readHappening 103 (.if_icmp .ne) 106 108 := ⟨5, by decide +kernel, by decide, rfl⟩
theorem d_Mod_readHappening_106 : zd_k b_Mod_readHappening "SameTuesdayModel" 106 0 107 := Or.inl ⟨0, by decide +kernel, by decide, rfl⟩
theorem d_Mod_readHappening_107 : zd b_Mod_readHappening 107 .ireturn 1 108 := ⟨by decide +kernel, rfl⟩
theorem d_Mod_readHappening_108 : zd_l .aload_n .aload b_Mod_readHappening 108 0 109 := Or.inl ⟨0, rfl, by decide +kernel, rfl⟩
theorem d_Mod_readHappening_109 : zd_l .iload_n .iload b_Mod_readHappening 109 1 110 := Or.inl ⟨1, rfl, by decide +kernel, rfl⟩
theorem d_Mod_readHappening_110 : zd_k b_Mod_readHappening "SameTuesdayModel" 110 0 111 := Or.inl ⟨0, by decide +kernel, by decide, rfl⟩
theorem d_Mod_readHappening_111 : zd_k b_Mod_readHappening "SameTuesdayModel" 111 9 113 := Or.inr (Or.inl ⟨9, by decide +kernel, by decide, rfl⟩)
theorem d_Mod_readHappening_113 : zd b_Mod_readHappening 113 (.invokevirtual 136) 3 116 := ⟨by decide +kernel, rfl⟩
theorem d_Mod_readHappening_116 : zd_l .istore_n .istore b_Mod_readHappening 116 5 118 := Or.inr ⟨by decide +kernel, rfl⟩
theorem d_Mod_readHappening_118 : zd_l .iload_n .iload b_Mod_readHappening 118 5 120 := Or.inr ⟨by decide +kernel, rfl⟩
theorem d_Mod_readHappening_120 : zd_k b_Mod_readHappening "SameTuesdayModel" 120 (-9) 122 := Or.inr (Or.inl ⟨(-9), by decide +kernel, by decide, rfl⟩)
theorem d_Mod_readHappening_122 : zd_b b_Mod_readHappening 122 (.if_icmp .ne) 125 127 := ⟨5, by decide +kernel, by decide, rfl⟩
theorem d_Mod_readHappening_125 : zd_k b_Mod_readHappening "SameTuesdayModel" 125 0 126 := Or.inl ⟨0, by decide +kernel, by decide, rfl⟩
theorem d_Mod_readHappening_126 : zd b_Mod_readHappening 126 .ireturn 1 127 := ⟨by decide +kernel, rfl⟩
theorem d_Mod_readHappening_127 : zd_l .aload_n .aload b_Mod_readHappening 127 0 128 := Or.inl ⟨0, rfl, by decide +kernel, rfl⟩
theorem d_Mod_readHappening_128 : zd b_Mod_readHappening 128 (.getfield 43) 3 131 := ⟨by decide +kernel, rfl⟩
theorem d_Mod_readHappening_131 : zd_l .iload_n .iload b_Mod_readHappening 131 2 132 := Or.inl ⟨2, rfl, by decide +kernel, rfl⟩
theorem d_Mod_readHappening_132 : zd_k b_Mod_readHappening "SameTuesdayModel" 132 1 133 := Or.inl ⟨1, by decide +kernel, by decide, rfl⟩
theorem d_Mod_readHappening_133 : zd b_Mod_readHappening 133 .iadd 1 134 := ⟨by decide +kernel, rfl⟩
theorem d_Mod_readHappening_134 : zd_k b_Mod_readHappening "SameTuesdayModel" 134 10 136 := Or.inr (Or.inl ⟨10, by decide +kernel, by decide, rfl⟩)
theorem d_Mod_readHappening_136 : zd_l .iload_n .iload b_Mod_readHappening 136 4 138 := Or.inr ⟨by decide +kernel, rfl⟩
theorem d_Mod_readHappening_138 : zd b_Mod_readHappening 138 .imul 1 139 := ⟨by decide +kernel, rfl⟩
theorem d_Mod_readHappening_139 : zd_l .iload_n .iload b_Mod_readHappening 139 5 141 := Or.inr ⟨by decide +kernel, rfl⟩
theorem d_Mod_readHappening_141 : zd b_Mod_readHappening 141 .iadd 1 142 := ⟨by decide +kernel, rfl⟩
theorem d_Mod_readHappening_142 : zd b_Mod_readHappening 142 .iastore 1 143 := ⟨by decide +kernel, rfl⟩
theorem d_Mod_readHappening_143 : zd_l .aload_n .aload b_Mod_readHappening 143 0 144 := Or.inl ⟨0, rfl, by decide +kernel, rfl⟩
theorem d_Mod_readHappening_144 : zd b_Mod_readHappening 144 (.getfield 43) 3 147 := ⟨by decide +kernel, rfl⟩
theorem d_Mod_readHappening_147 : zd_l .iload_n .iload b_Mod_readHappening 147 2 148 := Or.inl ⟨2, rfl, by decide +kernel, rfl⟩
theorem d_Mod_readHappening_148 : zd_k b_Mod_readHappening "SameTuesdayModel" 148 2 149 := Or.inl ⟨2, by decide +kernel, by decide, rfl⟩
theorem d_Mod_readHappening_149 : zd b_Mod_readHappening 149 .iadd 1 150 := ⟨by decide +kernel, rfl⟩
theorem d_Mod_readHappening_150 : zd_l .aload_n .aload b_Mod_readHappening 150 0 151 := Or.inl ⟨0, rfl, by decide +kernel, rfl⟩
theorem d_Mod_readHappening_151 : zd_l .iload_n .iload b_Mod_readHappening 151 1 152 := Or.inl ⟨1, rfl, by decide +kernel, rfl⟩
theorem d_Mod_readHappening_152 : zd_k b_Mod_readHappening "SameTuesdayModel" 152 0 153 := Or.inl ⟨0, by decide +kernel, by decide, rfl⟩
theorem d_Mod_readHappening_153 : zd_k b_Mod_readHappening "SameTuesdayModel" 153 6 155 := Or.inr (Or.inl ⟨6, by decide +kernel, by decide, rfl⟩)
theorem d_Mod_readHappening_155 : zd b_Mod_readHappening 155 (.invokevirtual 136) 3 158 := ⟨by decide +kernel, rfl⟩
theorem d_Mod_readHappening_158 : zd b_Mod_readHappening 158 .iastore 1 159 := ⟨by decide +kernel, rfl⟩
theorem d_Mod_readHappening_159 : zd_l .aload_n .aload b_Mod_readHappening 159 0 160 := Or.inl ⟨0, rfl, by decide +kernel, rfl⟩
theorem d_Mod_readHappening_160 : zd b_Mod_readHappening 160 (.getfield 43) 3 163 := ⟨by decide +kernel, rfl⟩
theorem d_Mod_readHappening_163 : zd_l .iload_n .iload b_Mod_readHappening 163 2 164 := Or.inl ⟨2, rfl, by decide +kernel, rfl⟩
theorem d_Mod_readHappening_164 : zd_k b_Mod_readHappening "SameTuesdayModel" 164 2 165 := Or.inl ⟨2, by decide +kernel, by decide, rfl⟩
theorem d_Mod_readHappening_165 : zd b_Mod_readHappening 165 .iadd 1 166 := ⟨by decide +kernel, rfl⟩
theorem d_Mod_readHappening_166 : zd b_Mod_readHappening 166 .iaload 1 167 := ⟨by decide +kernel, rfl⟩
theorem d_Mod_readHappening_167 : zd_k b_Mod_readHappening "SameTuesdayModel" 167 (-9) 169 := Or.inr (Or.inl ⟨(-9), by decide +kernel, by decide, rfl⟩)
theorem d_Mod_readHappening_169 : zd_b b_Mod_readHappening 169 (.if_icmp .ne) 172 174 := ⟨5, by decide +kernel, by decide, rfl⟩
theorem d_Mod_readHappening_172 : zd_k b_Mod_readHappening "SameTuesdayModel" 172 0 173 := Or.inl ⟨0, by decide +kernel, by decide, rfl⟩
theorem d_Mod_readHappening_173 : zd b_Mod_readHappening 173 .ireturn 1 174 := ⟨by decide +kernel, rfl⟩
theorem d_Mod_readHappening_174 : zd_l .aload_n .aload b_Mod_readHappening 174 0 175 := Or.inl ⟨0, rfl, by decide +kernel, rfl⟩
theorem d_Mod_readHappening_175 : zd b_Mod_readHappening 175 (.getfield 43) 3 178 := ⟨by decide +kernel, rfl⟩
theorem d_Mod_readHappening_178 : zd_l .iload_n .iload b_Mod_readHappening 178 2 179 := Or.inl ⟨2, rfl, by decide +kernel, rfl⟩
theorem d_Mod_readHappening_179 : zd_k b_Mod_readHappening "SameTuesdayModel" 179 3 180 := Or.inl ⟨3, by decide +kernel, by decide, rfl⟩
theorem d_Mod_readHappening_180 : zd b_Mod_readHappening 180 .iadd 1 181 := ⟨by decide +kernel, rfl⟩
theorem d_Mod_readHappening_181 : zd_l .aload_n .aload b_Mod_readHappening 181 0 182 := Or.inl ⟨0, rfl, by decide +kernel, rfl⟩
theorem d_Mod_readHappening_182 : zd_l .iload_n .iload b_Mod_readHappening 182 1 183 := Or.inl ⟨1, rfl, by decide +kernel, rfl⟩
theorem d_Mod_readHappening_183 : zd_k b_Mod_readHappening "SameTuesdayModel" 183 0 184 := Or.inl ⟨0, by decide +kernel, by decide, rfl⟩
theorem d_Mod_readHappening_184 : zd_k b_Mod_readHappening "SameTuesdayModel" 184 5 185 := Or.inl ⟨5, by decide +kernel, by decide, rfl⟩
theorem d_Mod_readHappening_185 : zd b_Mod_readHappening 185 (.invokevirtual 136) 3 188 := ⟨by decide +kernel, rfl⟩
theorem d_Mod_readHappening_188 : zd b_Mod_readHappening 188 .iastore 1 189 := ⟨by decide +kernel, rfl⟩
theorem d_Mod_readHappening_189 : zd_l .aload_n .aload b_Mod_readHappening 189 0 190 := Or.inl ⟨0, rfl, by decide +kernel, rfl⟩
theorem d_Mod_readHappening_190 : zd b_Mod_readHappening 190 .dup 1 191 := ⟨by decide +kernel, rfl⟩
theorem d_Mod_readHappening_191 : zd b_Mod_readHappening 191 (.getfield 114) 3 194 := ⟨by decide +kernel, rfl⟩
theorem d_Mod_readHappening_194 : zd_k b_Mod_readHappening "SameTuesdayModel" 194 1 195 := Or.inl ⟨1, by decide +kernel, by decide, rfl⟩
theorem d_Mod_readHappening_195 : zd b_Mod_readHappening 195 .iadd 1 196 := ⟨by decide +kernel, rfl⟩
theorem d_Mod_readHappening_196 : zd b_Mod_readHappening 196 (.putfield 114) 3 199 := ⟨by decide +kernel, rfl⟩
theorem d_Mod_readHappening_199 : zd_l .aload_n .aload b_Mod_readHappening 199 0 200 := Or.inl ⟨0, rfl, by decide +kernel, rfl⟩
theorem d_Mod_readHappening_200 : zd b_Mod_readHappening 200 (.getfield 43) 3 203 := ⟨by decide +kernel, rfl⟩
theorem d_Mod_readHappening_203 : zd_l .iload_n .iload b_Mod_readHappening 203 2 204 := Or.inl ⟨2, rfl, by decide +kernel, rfl⟩
theorem d_Mod_readHappening_204 : zd_k b_Mod_readHappening "SameTuesdayModel" 204 3 205 := Or.inl ⟨3, by decide +kernel, by decide, rfl⟩
theorem d_Mod_readHappening_205 : zd b_Mod_readHappening 205 .iadd 1 206 := ⟨by decide +kernel, rfl⟩
theorem d_Mod_readHappening_206 : zd b_Mod_readHappening 206 .iaload 1 207 := ⟨by decide +kernel, rfl⟩
theorem d_Mod_readHappening_207 : zd_k b_Mod_readHappening "SameTuesdayModel" 207 (-9) 209 := Or.inr (Or.inl ⟨(-9), by decide +kernel, by decide, rfl⟩)
theorem d_Mod_readHappening_209 : zd_b b_Mod_readHappening 209 (.if_icmp .eq) 212 216 := ⟨7, by decide +kernel, by decide, rfl⟩
theorem d_Mod_readHappening_212 : zd_k b_Mod_readHappening "SameTuesdayModel" 212 1 213 := Or.inl ⟨1, by decide +kernel, by decide, rfl⟩
theorem d_Mod_readHappening_213 : zd_b b_Mod_readHappening 213 .goto 216 217 := ⟨4, by decide +kernel, by decide, rfl⟩
theorem d_Mod_readHappening_216 : zd_k b_Mod_readHappening "SameTuesdayModel" 216 0 217 := Or.inl ⟨0, by decide +kernel, by decide, rfl⟩
theorem d_Mod_readHappening_217 : zd b_Mod_readHappening 217 .ireturn 1 218 := ⟨by decide +kernel, rfl⟩
theorem d_Mod_readOneDeed_0 : zd_k b_Mod_readOneDeed "SameTuesdayModel" 0 4 1 := Or.inl ⟨4, by decide +kernel, by decide, rfl⟩
theorem d_Mod_readOneDeed_1 : zd_l .aload_n .aload b_Mod_readOneDeed 1 0 2 := Or.inl ⟨0, rfl, by decide +kernel, rfl⟩
theorem d_Mod_readOneDeed_2 : zd b_Mod_readOneDeed 2 (.getfield 117) 3 5 := ⟨by decide +kernel, rfl⟩
theorem d_Mod_readOneDeed_5 : zd b_Mod_readOneDeed 5 .imul 1 6 := ⟨by decide +kernel, rfl⟩
theorem d_Mod_readOneDeed_6 : zd_l .istore_n .istore b_Mod_readOneDeed 6 2 7 := Or.inl ⟨2, rfl, by decide +kernel, rfl⟩
theorem d_Mod_readOneDeed_7 : zd_k b_Mod_readOneDeed "SameTuesdayModel" 7 0 8 := Or.inl ⟨0, by decide +kernel, by decide, rfl⟩
theorem d_Mod_readOneDeed_8 : zd_l .istore_n .istore b_Mod_readOneDeed 8 3 9 := Or.inl ⟨3, rfl, by decide +kernel, rfl⟩
theorem d_Mod_readOneDeed_9 : zd_l .iload_n .iload b_Mod_readOneDeed 9 3 10 := Or.inl ⟨3, rfl, by decide +kernel, rfl⟩
theorem d_Mod_readOneDeed_10 : zd_k b_Mod_readOneDeed "SameTuesdayModel" 10 4 11 := Or.inl ⟨4, by decide +kernel, by decide, rfl⟩
theorem d_Mod_readOneDeed_11 : zd_b b_Mod_readOneDeed 11 (.if_icmp .ge) 14 83 := ⟨72, by decide +kernel, by decide, rfl⟩
theorem d_Mod_readOneDeed_14 : zd_l .iload_n .iload b_Mod_readOneDeed 14 3 15 := Or.inl ⟨3, rfl, by decide +kernel, rfl⟩
theorem d_Mod_readOneDeed_15 : zd_k b_Mod_readOneDeed "SameTuesdayModel" 15 1 16 := Or.inl ⟨1, by decide +kernel, by decide, rfl⟩
theorem d_Mod_readOneDeed_16 : zd_b b_Mod_readOneDeed 16 (.if_icmp .ne) 19 23 := ⟨7, by decide +kernel, by decide, rfl⟩
theorem d_Mod_readOneDeed_19 : zd_k b_Mod_readOneDeed "SameTuesdayModel" 19 5 20 := Or.inl ⟨5, by decide +kernel, by decide, rfl⟩
theorem d_Mod_readOneDeed_20 : zd_b b_Mod_readOneDeed 20 .goto 23 35 := ⟨15, by decide +kernel, by decide, rfl⟩
theorem d_Mod_readOneDeed_23 : zd_l .iload_n .iload b_Mod_readOneDeed 23 3 24 := Or.inl ⟨3, rfl, by decide +kernel, rfl⟩
theorem d_Mod_readOneDeed_24 : zd_k b_Mod_readOneDeed "SameTuesdayModel" 24 3 25 := Or.inl ⟨3, by decide +kernel, by decide, rfl⟩
theorem d_Mod_readOneDeed_25 : zd_b b_Mod_readOneDeed 25 (.if_icmp .ne) 28 33 := ⟨8, by decide +kernel, by decide, rfl⟩
theorem d_Mod_readOneDeed_28 : zd_k b_Mod_readOneDeed "SameTuesdayModel" 28 9 30 := Or.inr (Or.inl ⟨9, by decide +kernel, by decide, rfl⟩)
theorem d_Mod_readOneDeed_30 : zd_b b_Mod_readOneDeed 30 .goto 33 35 := ⟨5, by decide +kernel, by decide, rfl⟩
theorem d_Mod_readOneDeed_33 : zd_k b_Mod_readOneDeed "SameTuesdayModel" 33 6 35 := Or.inr (Or.inl ⟨6, by decide +kernel, by decide, rfl⟩)
theorem d_Mod_readOneDeed_35 : zd_l .istore_n .istore b_Mod_readOneDeed 35 4 37 := Or.inr ⟨by decide +kernel, rfl⟩
theorem d_Mod_readOneDeed_37 : zd_l .aload_n .aload b_Mod_readOneDeed 37 0 38 := Or.inl ⟨0, rfl, by decide +kernel, rfl⟩
theorem d_Mod_readOneDeed_38 : zd b_Mod_readOneDeed 38 (.getfield 46) 3 41 := ⟨by decide +kernel, rfl⟩
theorem d_Mod_readOneDeed_41 : zd_l .iload_n .iload b_Mod_readOneDeed 41 2 42 := Or.inl ⟨2, rfl, by decide +kernel, rfl⟩
theorem d_Mod_readOneDeed_42 : zd_l .iload_n .iload b_Mod_readOneDeed 42 3 43 := Or.inl ⟨3, rfl, by decide +kernel, rfl⟩
theorem d_Mod_readOneDeed_43 : zd b_Mod_readOneDeed 43 .iadd 1 44 := ⟨by decide +kernel, rfl⟩
theorem d_Mod_readOneDeed_44 : zd_l .aload_n .aload b_Mod_readOneDeed 44 0 45 := Or.inl ⟨0, rfl, by decide +kernel, rfl⟩
theorem d_Mod_readOneDeed_45 : zd_l .iload_n .iload b_Mod_readOneDeed 45 1 46 := Or.inl ⟨1, rfl, by decide +kernel, rfl⟩
theorem d_Mod_readOneDeed_46 : zd_l .iload_n .iload b_Mod_readOneDeed 46 3 47 := Or.inl ⟨3, rfl, by decide +kernel, rfl⟩
theorem d_Mod_readOneDeed_47 : zd_k b_Mod_readOneDeed "SameTuesdayModel" 47 3 48 := Or.inl ⟨3, by decide +kernel, by decide, rfl⟩
theorem d_Mod_readOneDeed_48 : zd_b b_Mod_readOneDeed 48 (.if_icmp .ne) 51 55 := ⟨7, by decide +kernel, by decide, rfl⟩
theorem d_Mod_readOneDeed_51 : zd_k b_Mod_readOneDeed "SameTuesdayModel" 51 1 52 := Or.inl ⟨1, by decide +kernel, by decide, rfl⟩
theorem d_Mod_readOneDeed_52 : zd_b b_Mod_readOneDeed 52 .goto 55 56 := ⟨4, by decide +kernel, by decide, rfl⟩
theorem d_Mod_readOneDeed_55 : zd_k b_Mod_readOneDeed "SameTuesdayModel" 55 0 56 := Or.inl ⟨0, by decide +kernel, by decide, rfl⟩
theorem d_Mod_readOneDeed_56 : zd_l .iload_n .iload b_Mod_readOneDeed 56 4 58 := Or.inr ⟨by decide +kernel, rfl⟩
theorem d_Mod_readOneDeed_58 : zd b_Mod_readOneDeed 58 (.invokevirtual 136) 3 61 := ⟨by decide +kernel, rfl⟩
theorem d_Mod_readOneDeed_61 : zd b_Mod_readOneDeed 61 .iastore 1 62 := ⟨by decide +kernel, rfl⟩
theorem d_Mod_readOneDeed_62 : zd_l .aload_n .aload b_Mod_readOneDeed 62 0 63 := Or.inl ⟨0, rfl, by decide +kernel, rfl⟩
theorem d_Mod_readOneDeed_63 : zd b_Mod_readOneDeed 63 (.getfield 46) 3 66 := ⟨by decide +kernel, rfl⟩
theorem d_Mod_readOneDeed_66 : zd_l .iload_n .iload b_Mod_readOneDeed 66 2 67 := Or.inl ⟨2, rfl, by decide +kernel, rfl⟩
theorem d_Mod_readOneDeed_67 : zd_l .iload_n .iload b_Mod_readOneDeed 67 3 68 := Or.inl ⟨3, rfl, by decide +kernel, rfl⟩
theorem d_Mod_readOneDeed_68 : zd b_Mod_readOneDeed 68 .iadd 1 69 := ⟨by decide +kernel, rfl⟩
theorem d_Mod_readOneDeed_69 : zd b_Mod_readOneDeed 69 .iaload 1 70 := ⟨by decide +kernel, rfl⟩
theorem d_Mod_readOneDeed_70 : zd_k b_Mod_readOneDeed "SameTuesdayModel" 70 (-9) 72 := Or.inr (Or.inl ⟨(-9), by decide +kernel, by decide, rfl⟩)
theorem d_Mod_readOneDeed_72 : zd_b b_Mod_readOneDeed 72 (.if_icmp .ne) 75 77 := ⟨5, by decide +kernel, by decide, rfl⟩
theorem d_Mod_readOneDeed_75 : zd_k b_Mod_readOneDeed "SameTuesdayModel" 75 0 76 := Or.inl ⟨0, by decide +kernel, by decide, rfl⟩
theorem d_Mod_readOneDeed_76 : zd b_Mod_readOneDeed 76 .ireturn 1 77 := ⟨by decide +kernel, rfl⟩
theorem d_Mod_readOneDeed_77 : zd_i b_Mod_readOneDeed 77 3 1 1 80 := ⟨by decide +kernel, by decide, rfl⟩
theorem d_Mod_readOneDeed_80 : zd_b b_Mod_readOneDeed 80 .goto 83 9 := ⟨(-71), by decide +kernel, by decide, rfl⟩
theorem d_Mod_readOneDeed_83 : zd_l .aload_n .aload b_Mod_readOneDeed 83 0 84 := Or.inl ⟨0, rfl, by decide +kernel, rfl⟩
theorem d_Mod_readOneDeed_84 : zd b_Mod_readOneDeed 84 .dup 1 85 := ⟨by decide +kernel, rfl⟩
theorem d_Mod_readOneDeed_85 : zd b_Mod_readOneDeed 85 (.getfield 117) 3 88 := ⟨by decide +kernel, rfl⟩
theorem d_Mod_readOneDeed_88 : zd_k b_Mod_readOneDeed "SameTuesdayModel" 88 1 89 := Or.inl ⟨1, by decide +kernel, by decide, rfl⟩
theorem d_Mod_readOneDeed_89 : zd b_Mod_readOneDeed 89 .iadd 1 90 := ⟨by decide +kernel, rfl⟩
theorem d_Mod_readOneDeed_90 : zd b_Mod_readOneDeed 90 (.putfield 117) 3 93 := ⟨by decide +kernel, rfl⟩
theorem d_Mod_readOneDeed_93 : zd_k b_Mod_readOneDeed "SameTuesdayModel" 93 1 94 := Or.inl ⟨1, by decide +kernel, by decide, rfl⟩
theorem d_Mod_readOneDeed_94 : zd b_Mod_readOneDeed 94 .ireturn 1 95 := ⟨by decide +kernel, rfl⟩
theorem d_Mod_ofHappening_0 : zd_l .aload_n .aload b_Mod_ofHappening 0 0 1 := Or.inl ⟨0, rfl, by decide +kernel, rfl⟩
theorem d_Mod_ofHappening_1 : zd_l .iload_n .iload b_Mod_ofHappening 1 1 2 := Or.inl ⟨1, rfl, by decide +kernel, rfl⟩
theorem d_Mod_ofHappening_2 : zd b_Mod_ofHappening 2 (.invokevirtual 140) 3 5 := ⟨by decide +kernel, rfl⟩
theorem d_Mod_ofHappening_5 : zd_b b_Mod_ofHappening 5 (.ifCond .ne) 8 10 := ⟨5, by decide +kernel, by decide, rfl⟩
theorem d_Mod_ofHappening_8 : zd_k b_Mod_ofHappening "SameTuesdayModel" 8 (-1) 9 := Or.inl ⟨(-1), by decide +kernel, by decide, rfl⟩
theorem d_Mod_ofHappening_9 : zd b_Mod_ofHappening 9 .ireturn 1 10 := ⟨by decide +kernel, rfl⟩
theorem d_Mod_ofHappening_10 : zd_l .iload_n .iload b_Mod_ofHappening 10 2 11 := Or.inl ⟨2, rfl, by decide +kernel, rfl⟩
theorem d_Mod_ofHappening_11 : zd_b b_Mod_ofHappening 11 (.ifCond .ne) 14 23 := ⟨12, by decide +kernel, by decide, rfl⟩
theorem d_Mod_ofHappening_14 : zd_l .aload_n .aload b_Mod_ofHappening 14 0 15 := Or.inl ⟨0, rfl, by decide +kernel, rfl⟩
theorem d_Mod_ofHappening_15 : zd b_Mod_ofHappening 15 (.getfield 19) 3 18 := ⟨by decide +kernel, rfl⟩
theorem d_Mod_ofHappening_18 : zd_l .iload_n .iload b_Mod_ofHappening 18 1 19 := Or.inl ⟨1, rfl, by decide +kernel, rfl⟩
theorem d_Mod_ofHappening_19 : zd b_Mod_ofHappening 19 .iaload 1 20 := ⟨by decide +kernel, rfl⟩
theorem d_Mod_ofHappening_20 : zd_b b_Mod_ofHappening 20 .goto 23 67 := ⟨47, by decide +kernel, by decide, rfl⟩
theorem d_Mod_ofHappening_23 : zd_l .iload_n .iload b_Mod_ofHappening 23 2 24 := Or.inl ⟨2, rfl, by decide +kernel, rfl⟩
theorem d_Mod_ofHappening_24 : zd_k b_Mod_ofHappening "SameTuesdayModel" 24 1 25 := Or.inl ⟨1, by decide +kernel, by decide, rfl⟩
theorem d_Mod_ofHappening_25 : zd_b b_Mod_ofHappening 25 (.if_icmp .ne) 28 37 := ⟨12, by decide +kernel, by decide, rfl⟩
theorem d_Mod_ofHappening_28 : zd_l .aload_n .aload b_Mod_ofHappening 28 0 29 := Or.inl ⟨0, rfl, by decide +kernel, rfl⟩
theorem d_Mod_ofHappening_29 : zd b_Mod_ofHappening 29 (.getfield 22) 3 32 := ⟨by decide +kernel, rfl⟩
theorem d_Mod_ofHappening_32 : zd_l .iload_n .iload b_Mod_ofHappening 32 1 33 := Or.inl ⟨1, rfl, by decide +kernel, rfl⟩
theorem d_Mod_ofHappening_33 : zd b_Mod_ofHappening 33 .iaload 1 34 := ⟨by decide +kernel, rfl⟩
theorem d_Mod_ofHappening_34 : zd_b b_Mod_ofHappening 34 .goto 37 67 := ⟨33, by decide +kernel, by decide, rfl⟩
theorem d_Mod_ofHappening_37 : zd_l .iload_n .iload b_Mod_ofHappening 37 2 38 := Or.inl ⟨2, rfl, by decide +kernel, rfl⟩
theorem d_Mod_ofHappening_38 : zd_k b_Mod_ofHappening "SameTuesdayModel" 38 2 39 := Or.inl ⟨2, by decide +kernel, by decide, rfl⟩
theorem d_Mod_ofHappening_39 : zd_b b_Mod_ofHappening 39 (.if_icmp .ne) 42 51 := ⟨12, by decide +kernel, by decide, rfl⟩
theorem d_Mod_ofHappening_42 : zd_l .aload_n .aload b_Mod_ofHappening 42 0 43 := Or.inl ⟨0, rfl, by decide +kernel, rfl⟩
theorem d_Mod_ofHappening_43 : zd b_Mod_ofHappening 43 (.getfield 25) 3 46 := ⟨by decide +kernel, rfl⟩
theorem d_Mod_ofHappening_46 : zd_l .iload_n .iload b_Mod_ofHappening 46 1 47 := Or.inl ⟨1, rfl, by decide +kernel, rfl⟩
theorem d_Mod_ofHappening_47 : zd b_Mod_ofHappening 47 .iaload 1 48 := ⟨by decide +kernel, rfl⟩
theorem d_Mod_ofHappening_48 : zd_b b_Mod_ofHappening 48 .goto 51 67 := ⟨19, by decide +kernel, by decide, rfl⟩
theorem d_Mod_ofHappening_51 : zd_l .iload_n .iload b_Mod_ofHappening 51 2 52 := Or.inl ⟨2, rfl, by decide +kernel, rfl⟩
theorem d_Mod_ofHappening_52 : zd_k b_Mod_ofHappening "SameTuesdayModel" 52 3 53 := Or.inl ⟨3, by decide +kernel, by decide, rfl⟩
theorem d_Mod_ofHappening_53 : zd_b b_Mod_ofHappening 53 (.if_icmp .ne) 56 65 := ⟨12, by decide +kernel, by decide, rfl⟩
theorem d_Mod_ofHappening_56 : zd_l .aload_n .aload b_Mod_ofHappening 56 0 57 := Or.inl ⟨0, rfl, by decide +kernel, rfl⟩
theorem d_Mod_ofHappening_57 : zd b_Mod_ofHappening 57 (.getfield 28) 3 60 := ⟨by decide +kernel, rfl⟩
theorem d_Mod_ofHappening_60 : zd_l .iload_n .iload b_Mod_ofHappening 60 1 61 := Or.inl ⟨1, rfl, by decide +kernel, rfl⟩
theorem d_Mod_ofHappening_61 : zd b_Mod_ofHappening 61 .iaload 1 62 := ⟨by decide +kernel, rfl⟩
theorem d_Mod_ofHappening_62 : zd_b b_Mod_ofHappening 62 .goto 65 67 := ⟨5, by decide +kernel, by decide, rfl⟩
theorem d_Mod_ofHappening_65 : zd_k b_Mod_ofHappening "SameTuesdayModel" 65 (-2) 67 := Or.inr (Or.inl ⟨(-2), by decide +kernel, by decide, rfl⟩)
theorem d_Mod_ofHappening_67 : zd b_Mod_ofHappening 67 .ireturn 1 68 := ⟨by decide +kernel, rfl⟩
theorem d_Mod_ofDeed_0 : zd_l .aload_n .aload b_Mod_ofDeed 0 0 1 := Or.inl ⟨0, rfl, by decide +kernel, rfl⟩
theorem d_Mod_ofDeed_1 : zd_l .iload_n .iload b_Mod_ofDeed 1 1 2 := Or.inl ⟨1, rfl, by decide +kernel, rfl⟩
theorem d_Mod_ofDeed_2 : zd b_Mod_ofDeed 2 (.invokevirtual 143) 3 5 := ⟨by decide +kernel, rfl⟩
theorem d_Mod_ofDeed_5 : zd_b b_Mod_ofDeed 5 (.ifCond .ne) 8 10 := ⟨5, by decide +kernel, by decide, rfl⟩
theorem d_Mod_ofDeed_8 : zd_k b_Mod_ofDeed "SameTuesdayModel" 8 (-1) 9 := Or.inl ⟨(-1), by decide +kernel, by decide, rfl⟩
theorem d_Mod_ofDeed_9 : zd b_Mod_ofDeed 9 .ireturn 1 10 := ⟨by decide +kernel, rfl⟩
theorem d_Mod_ofDeed_10 : zd_l .iload_n .iload b_Mod_ofDeed 10 2 11 := Or.inl ⟨2, rfl, by decide +kernel, rfl⟩
theorem d_Mod_ofDeed_11 : zd_b b_Mod_ofDeed 11 (.ifCond .ne) 14 23 := ⟨12, by decide +kernel, by decide, rfl⟩
theorem d_Mod_ofDeed_14 : zd_l .aload_n .aload b_Mod_ofDeed 14 0 15 := Or.inl ⟨0, rfl, by decide +kernel, rfl⟩
theorem d_Mod_ofDeed_15 : zd b_Mod_ofDeed 15 (.getfield 31) 3 18 := ⟨by decide +kernel, rfl⟩
theorem d_Mod_ofDeed_18 : zd_l .iload_n .iload b_Mod_ofDeed 18 1 19 := Or.inl ⟨1, rfl, by decide +kernel, rfl⟩
theorem d_Mod_ofDeed_19 : zd b_Mod_ofDeed 19 .iaload 1 20 := ⟨by decide +kernel, rfl⟩
theorem d_Mod_ofDeed_20 : zd_b b_Mod_ofDeed 20 .goto 23 67 := ⟨47, by decide +kernel, by decide, rfl⟩
theorem d_Mod_ofDeed_23 : zd_l .iload_n .iload b_Mod_ofDeed 23 2 24 := Or.inl ⟨2, rfl, by decide +kernel, rfl⟩
theorem d_Mod_ofDeed_24 : zd_k b_Mod_ofDeed "SameTuesdayModel" 24 1 25 := Or.inl ⟨1, by decide +kernel, by decide, rfl⟩
theorem d_Mod_ofDeed_25 : zd_b b_Mod_ofDeed 25 (.if_icmp .ne) 28 37 := ⟨12, by decide +kernel, by decide, rfl⟩
theorem d_Mod_ofDeed_28 : zd_l .aload_n .aload b_Mod_ofDeed 28 0 29 := Or.inl ⟨0, rfl, by decide +kernel, rfl⟩
theorem d_Mod_ofDeed_29 : zd b_Mod_ofDeed 29 (.getfield 34) 3 32 := ⟨by decide +kernel, rfl⟩
theorem d_Mod_ofDeed_32 : zd_l .iload_n .iload b_Mod_ofDeed 32 1 33 := Or.inl ⟨1, rfl, by decide +kernel, rfl⟩
theorem d_Mod_ofDeed_33 : zd b_Mod_ofDeed 33 .iaload 1 34 := ⟨by decide +kernel, rfl⟩
theorem d_Mod_ofDeed_34 : zd_b b_Mod_ofDeed 34 .goto 37 67 := ⟨33, by decide +kernel, by decide, rfl⟩
theorem d_Mod_ofDeed_37 : zd_l .iload_n .iload b_Mod_ofDeed 37 2 38 := Or.inl ⟨2, rfl, by decide +kernel, rfl⟩
theorem d_Mod_ofDeed_38 : zd_k b_Mod_ofDeed "SameTuesdayModel" 38 2 39 := Or.inl ⟨2, by decide +kernel, by decide, rfl⟩
theorem d_Mod_ofDeed_39 : zd_b b_Mod_ofDeed 39 (.if_icmp .ne) 42 51 := ⟨12, by decide +kernel, by decide, rfl⟩
theorem d_Mod_ofDeed_42 : zd_l .aload_n .aload b_Mod_ofDeed 42 0 43 := Or.inl ⟨0, rfl, by decide +kernel, rfl⟩
theorem d_Mod_ofDeed_43 : zd b_Mod_ofDeed 43 (.getfield 37) 3 46 := ⟨by decide +kernel, rfl⟩
theorem d_Mod_ofDeed_46 : zd_l .iload_n .iload b_Mod_ofDeed 46 1 47 := Or.inl ⟨1, rfl, by decide +kernel, rfl⟩
theorem d_Mod_ofDeed_47 : zd b_Mod_ofDeed 47 .iaload 1 48 := ⟨by decide +kernel, rfl⟩
theorem d_Mod_ofDeed_48 : zd_b b_Mod_ofDeed 48 .goto 51 67 := ⟨19, by decide +kernel, by decide, rfl⟩
theorem d_Mod_ofDeed_51 : zd_l .iload_n .iload b_Mod_ofDeed 51 2 52 := Or.inl ⟨2, rfl, by decide +kernel, rfl⟩
theorem d_Mod_ofDeed_52 : zd_k b_Mod_ofDeed "SameTuesdayModel" 52 3 53 := Or.inl ⟨3, by decide +kernel, by decide, rfl⟩
theorem d_Mod_ofDeed_53 : zd_b b_Mod_ofDeed 53 (.if_icmp .ne) 56 65 := ⟨12, by decide +kernel, by decide, rfl⟩
theorem d_Mod_ofDeed_56 : zd_l .aload_n .aload b_Mod_ofDeed 56 0 57 := Or.inl ⟨0, rfl, by decide +kernel, rfl⟩
theorem d_Mod_ofDeed_57 : zd b_Mod_ofDeed 57 (.getfield 40) 3 60 := ⟨by decide +kernel, rfl⟩
theorem d_Mod_ofDeed_60 : zd_l .iload_n .iload b_Mod_ofDeed 60 1 61 := Or.inl ⟨1, rfl, by decide +kernel, rfl⟩
theorem d_Mod_ofDeed_61 : zd b_Mod_ofDeed 61 .iaload 1 62 := ⟨by decide +kernel, rfl⟩
theorem d_Mod_ofDeed_62 : zd_b b_Mod_ofDeed 62 .goto 65 67 := ⟨5, by decide +kernel, by decide, rfl⟩
theorem d_Mod_ofDeed_65 : zd_k b_Mod_ofDeed "SameTuesdayModel" 65 (-2) 67 := Or.inr (Or.inl ⟨(-2), by decide +kernel, by decide, rfl⟩)
theorem d_Mod_ofDeed_67 : zd b_Mod_ofDeed 67 .ireturn 1 68 := ⟨by decide +kernel, rfl⟩
theorem d_Mod_minutes_0 : zd_l .iload_n .iload b_Mod_minutes 0 1 1 := Or.inl ⟨1, rfl, by decide +kernel, rfl⟩
theorem d_Mod_minutes_1 : zd_k b_Mod_minutes "SameTuesdayModel" 1 1 2 := Or.inl ⟨1, by decide +kernel, by decide, rfl⟩
theorem d_Mod_minutes_2 : zd_k b_Mod_minutes "SameTuesdayModel" 2 60 4 := Or.inr (Or.inl ⟨60, by decide +kernel, by decide, rfl⟩)
theorem d_Mod_minutes_4 : zd b_Mod_minutes 4 (.invokestatic 83) 3 7 := ⟨by decide +kernel, rfl⟩
theorem d_Mod_minutes_7 : zd_b b_Mod_minutes 7 (.ifCond .ne) 10 13 := ⟨6, by decide +kernel, by decide, rfl⟩
theorem d_Mod_minutes_10 : zd_k b_Mod_minutes "SameTuesdayModel" 10 (-2) 12 := Or.inr (Or.inl ⟨(-2), by decide +kernel, by decide, rfl⟩)
theorem d_Mod_minutes_12 : zd b_Mod_minutes 12 .ireturn 1 13 := ⟨by decide +kernel, rfl⟩
theorem d_Mod_minutes_13 : zd_l .aload_n .aload b_Mod_minutes 13 0 14 := Or.inl ⟨0, rfl, by decide +kernel, rfl⟩
theorem d_Mod_minutes_14 : zd b_Mod_minutes 14 (.getfield 87) 3 17 := ⟨by decide +kernel, rfl⟩
theorem d_Mod_minutes_17 : zd_b b_Mod_minutes 17 (.ifCond .ne) 20 23 := ⟨6, by decide +kernel, by decide, rfl⟩
theorem d_Mod_minutes_20 : zd_k b_Mod_minutes "SameTuesdayModel" 20 (-3) 22 := Or.inr (Or.inl ⟨(-3), by decide +kernel, by decide, rfl⟩)
theorem d_Mod_minutes_22 : zd b_Mod_minutes 22 .ireturn 1 23 := ⟨by decide +kernel, rfl⟩
theorem d_Mod_minutes_23 : zd_l .aload_n .aload b_Mod_minutes 23 0 24 := Or.inl ⟨0, rfl, by decide +kernel, rfl⟩
theorem d_Mod_minutes_24 : zd b_Mod_minutes 24 (.getfield 120) 3 27 := ⟨by decide +kernel, rfl⟩
theorem d_Mod_minutes_27 : zd_l .istore_n .istore b_Mod_minutes 27 2 28 := Or.inl ⟨2, rfl, by decide +kernel, rfl⟩
theorem d_Mod_minutes_28 : zd_l .aload_n .aload b_Mod_minutes 28 0 29 := Or.inl ⟨0, rfl, by decide +kernel, rfl⟩
theorem d_Mod_minutes_29 : zd_l .iload_n .iload b_Mod_minutes 29 1 30 := Or.inl ⟨1, rfl, by decide +kernel, rfl⟩
theorem d_Mod_minutes_30 : zd b_Mod_minutes 30 (.putfield 120) 3 33 := ⟨by decide +kernel, rfl⟩
theorem d_Mod_minutes_33 : zd_l .iload_n .iload b_Mod_minutes 33 2 34 := Or.inl ⟨2, rfl, by decide +kernel, rfl⟩
theorem d_Mod_minutes_34 : zd b_Mod_minutes 34 .ireturn 1 35 := ⟨by decide +kernel, rfl⟩
theorem d_Mod_shift_0 : zd_l .aload_n .aload b_Mod_shift 0 0 1 := Or.inl ⟨0, rfl, by decide +kernel, rfl⟩
theorem d_Mod_shift_1 : zd_l .iload_n .iload b_Mod_shift 1 1 2 := Or.inl ⟨1, rfl, by decide +kernel, rfl⟩
theorem d_Mod_shift_2 : zd b_Mod_shift 2 (.invokevirtual 140) 3 5 := ⟨by decide +kernel, rfl⟩
theorem d_Mod_shift_5 : zd_b b_Mod_shift 5 (.ifCond .ne) 8 10 := ⟨5, by decide +kernel, by decide, rfl⟩
theorem d_Mod_shift_8 : zd_k b_Mod_shift "SameTuesdayModel" 8 (-1) 9 := Or.inl ⟨(-1), by decide +kernel, by decide, rfl⟩
theorem d_Mod_shift_9 : zd b_Mod_shift 9 .ireturn 1 10 := ⟨by decide +kernel, rfl⟩
theorem d_Mod_shift_10 : zd_l .iload_n .iload b_Mod_shift 10 2 11 := Or.inl ⟨2, rfl, by decide +kernel, rfl⟩
theorem d_Mod_shift_11 : zd_k b_Mod_shift "SameTuesdayModel" 11 0 12 := Or.inl ⟨0, by decide +kernel, by decide, rfl⟩
theorem d_Mod_shift_12 : zd_k b_Mod_shift "SameTuesdayModel" 12 59 14 := Or.inr (Or.inl ⟨59, by decide +kernel, by decide, rfl⟩)
theorem d_Mod_shift_14 : zd b_Mod_shift 14 (.invokestatic 83) 3 17 := ⟨by decide +kernel, rfl⟩
theorem d_Mod_shift_17 : zd_b b_Mod_shift 17 (.ifCond .ne) 20 23 := ⟨6, by decide +kernel, by decide, rfl⟩
theorem d_Mod_shift_20 : zd_k b_Mod_shift "SameTuesdayModel" 20 (-2) 22 := Or.inr (Or.inl ⟨(-2), by decide +kernel, by decide, rfl⟩)
theorem d_Mod_shift_22 : zd b_Mod_shift 22 .ireturn 1 23 := ⟨by decide +kernel, rfl⟩
theorem d_Mod_shift_23 : zd_l .aload_n .aload b_Mod_shift 23 0 24 := Or.inl ⟨0, rfl, by decide +kernel, rfl⟩
theorem d_Mod_shift_24 : zd b_Mod_shift 24 (.getfield 22) 3 27 := ⟨by decide +kernel, rfl⟩
theorem d_Mod_shift_27 : zd_l .iload_n .iload b_Mod_shift 27 1 28 := Or.inl ⟨1, rfl, by decide +kernel, rfl⟩
theorem d_Mod_shift_28 : zd b_Mod_shift 28 .iaload 1 29 := ⟨by decide +kernel, rfl⟩
theorem d_Mod_shift_29 : zd_l .istore_n .istore b_Mod_shift 29 3 30 := Or.inl ⟨3, rfl, by decide +kernel, rfl⟩
theorem d_Mod_shift_30 : zd_l .aload_n .aload b_Mod_shift 30 0 31 := Or.inl ⟨0, rfl, by decide +kernel, rfl⟩
theorem d_Mod_shift_31 : zd b_Mod_shift 31 (.getfield 22) 3 34 := ⟨by decide +kernel, rfl⟩
theorem d_Mod_shift_34 : zd_l .iload_n .iload b_Mod_shift 34 1 35 := Or.inl ⟨1, rfl, by decide +kernel, rfl⟩
theorem d_Mod_shift_35 : zd_l .iload_n .iload b_Mod_shift 35 2 36 := Or.inl ⟨2, rfl, by decide +kernel, rfl⟩
theorem d_Mod_shift_36 : zd b_Mod_shift 36 .iastore 1 37 := ⟨by decide +kernel, rfl⟩
theorem d_Mod_shift_37 : zd_l .iload_n .iload b_Mod_shift 37 3 38 := Or.inl ⟨3, rfl, by decide +kernel, rfl⟩
theorem d_Mod_shift_38 : zd b_Mod_shift 38 .ireturn 1 39 := ⟨by decide +kernel, rfl⟩
theorem d_Mod_isMet_0 : zd_l .iload_n .iload b_Mod_isMet 0 0 1 := Or.inl ⟨0, rfl, by decide +kernel, rfl⟩
theorem d_Mod_isMet_1 : zd_k b_Mod_isMet "SameTuesdayModel" 1 6 3 := Or.inr (Or.inl ⟨6, by decide +kernel, by decide, rfl⟩)
theorem d_Mod_isMet_3 : zd_b b_Mod_isMet 3 (.if_icmp .eq) 6 15 := ⟨12, by decide +kernel, by decide, rfl⟩
theorem d_Mod_isMet_6 : zd_l .iload_n .iload b_Mod_isMet 6 1 7 := Or.inl ⟨1, rfl, by decide +kernel, rfl⟩
theorem d_Mod_isMet_7 : zd_l .iload_n .iload b_Mod_isMet 7 0 8 := Or.inl ⟨0, rfl, by decide +kernel, rfl⟩
theorem d_Mod_isMet_8 : zd b_Mod_isMet 8 .ishr 1 9 := ⟨by decide +kernel, rfl⟩
theorem d_Mod_isMet_9 : zd_k b_Mod_isMet "SameTuesdayModel" 9 1 10 := Or.inl ⟨1, by decide +kernel, by decide, rfl⟩
theorem d_Mod_isMet_10 : zd b_Mod_isMet 10 .iand 1 11 := ⟨by decide +kernel, rfl⟩
theorem d_Mod_isMet_11 : zd_k b_Mod_isMet "SameTuesdayModel" 11 1 12 := Or.inl ⟨1, by decide +kernel, by decide, rfl⟩
theorem d_Mod_isMet_12 : zd_b b_Mod_isMet 12 (.if_icmp .ne) 15 19 := ⟨7, by decide +kernel, by decide, rfl⟩
theorem d_Mod_isMet_15 : zd_k b_Mod_isMet "SameTuesdayModel" 15 1 16 := Or.inl ⟨1, by decide +kernel, by decide, rfl⟩
theorem d_Mod_isMet_16 : zd_b b_Mod_isMet 16 .goto 19 20 := ⟨4, by decide +kernel, by decide, rfl⟩
theorem d_Mod_isMet_19 : zd_k b_Mod_isMet "SameTuesdayModel" 19 0 20 := Or.inl ⟨0, by decide +kernel, by decide, rfl⟩
theorem d_Mod_isMet_20 : zd b_Mod_isMet 20 .ireturn 1 21 := ⟨by decide +kernel, rfl⟩
theorem d_Mod_happen_0 : zd_l .iload_n .iload b_Mod_happen 0 1 1 := Or.inl ⟨1, rfl, by decide +kernel, rfl⟩
theorem d_Mod_happen_1 : zd_l .istore_n .istore b_Mod_happen 1 4 3 := Or.inr ⟨by decide +kernel, rfl⟩
theorem d_Mod_happen_3 : zd_k b_Mod_happen "SameTuesdayModel" 3 0 4 := Or.inl ⟨0, by decide +kernel, by decide, rfl⟩
theorem d_Mod_happen_4 : zd_l .istore_n .istore b_Mod_happen 4 5 6 := Or.inr ⟨by decide +kernel, rfl⟩
theorem d_Mod_happen_6 : zd_l .iload_n .iload b_Mod_happen 6 5 8 := Or.inr ⟨by decide +kernel, rfl⟩
theorem d_Mod_happen_8 : zd_l .aload_n .aload b_Mod_happen 8 0 9 := Or.inl ⟨0, rfl, by decide +kernel, rfl⟩
theorem d_Mod_happen_9 : zd b_Mod_happen 9 (.getfield 87) 3 12 := ⟨by decide +kernel, rfl⟩
theorem d_Mod_happen_12 : zd_b b_Mod_happen 12 (.if_icmp .ge) 15 113 := ⟨101, by decide +kernel, by decide, rfl⟩
theorem d_Mod_happen_15 : zd_l .aload_n .aload b_Mod_happen 15 0 16 := Or.inl ⟨0, rfl, by decide +kernel, rfl⟩
theorem d_Mod_happen_16 : zd b_Mod_happen 16 (.getfield 22) 3 19 := ⟨by decide +kernel, rfl⟩
theorem d_Mod_happen_19 : zd_l .iload_n .iload b_Mod_happen 19 5 21 := Or.inr ⟨by decide +kernel, rfl⟩
theorem d_Mod_happen_21 : zd b_Mod_happen 21 .iaload 1 22 := ⟨by decide +kernel, rfl⟩
theorem d_Mod_happen_22 : zd_l .iload_n .iload b_Mod_happen 22 2 23 := Or.inl ⟨2, rfl, by decide +kernel, rfl⟩
theorem d_Mod_happen_23 : zd_b b_Mod_happen 23 (.if_icmp .ne) 26 107 := ⟨84, by decide +kernel, by decide, rfl⟩
theorem d_Mod_happen_26 : zd_l .iload_n .iload b_Mod_happen 26 3 27 := Or.inl ⟨3, rfl, by decide +kernel, rfl⟩
theorem d_Mod_happen_27 : zd_l .iload_n .iload b_Mod_happen 27 5 29 := Or.inr ⟨by decide +kernel, rfl⟩
theorem d_Mod_happen_29 : zd b_Mod_happen 29 .ishr 1 30 := ⟨by decide +kernel, rfl⟩
theorem d_Mod_happen_30 : zd_k b_Mod_happen "SameTuesdayModel" 30 1 31 := Or.inl ⟨1, by decide +kernel, by decide, rfl⟩
theorem d_Mod_happen_31 : zd b_Mod_happen 31 .iand 1 32 := ⟨by decide +kernel, rfl⟩
theorem d_Mod_happen_32 : zd_b b_Mod_happen 32 (.ifCond .ne) 35 107 := ⟨75, by decide +kernel, by decide, rfl⟩
theorem d_Mod_happen_35 : zd_l .aload_n .aload b_Mod_happen 35 0 36 := Or.inl ⟨0, rfl, by decide +kernel, rfl⟩
theorem d_Mod_happen_36 : zd b_Mod_happen 36 (.getfield 25) 3 39 := ⟨by decide +kernel, rfl⟩
theorem d_Mod_happen_39 : zd_l .iload_n .iload b_Mod_happen 39 5 41 := Or.inr ⟨by decide +kernel, rfl⟩
theorem d_Mod_happen_41 : zd b_Mod_happen 41 .iaload 1 42 := ⟨by decide +kernel, rfl⟩
theorem d_Mod_happen_42 : zd_l .iload_n .iload b_Mod_happen 42 4 44 := Or.inr ⟨by decide +kernel, rfl⟩
theorem d_Mod_happen_44 : zd b_Mod_happen 44 (.invokestatic 146) 3 47 := ⟨by decide +kernel, rfl⟩
theorem d_Mod_happen_47 : zd_b b_Mod_happen 47 (.ifCond .eq) 50 107 := ⟨60, by decide +kernel, by decide, rfl⟩
theorem d_Mod_happen_50 : zd_k b_Mod_happen "SameTuesdayModel" 50 1 51 := Or.inl ⟨1, by decide +kernel, by decide, rfl⟩
theorem d_Mod_happen_51 : zd_l .aload_n .aload b_Mod_happen 51 0 52 := Or.inl ⟨0, rfl, by decide +kernel, rfl⟩
theorem d_Mod_happen_52 : zd b_Mod_happen 52 (.getfield 28) 3 55 := ⟨by decide +kernel, rfl⟩
theorem d_Mod_happen_55 : zd_l .iload_n .iload b_Mod_happen 55 5 57 := Or.inr ⟨by decide +kernel, rfl⟩
theorem d_Mod_happen_57 : zd b_Mod_happen 57 .iaload 1 58 := ⟨by decide +kernel, rfl⟩
theorem d_Mod_happen_58 : zd b_Mod_happen 58 .ishl 1 59 := ⟨by decide +kernel, rfl⟩
theorem d_Mod_happen_59 : zd_l .istore_n .istore b_Mod_happen 59 6 61 := Or.inr ⟨by decide +kernel, rfl⟩
theorem d_Mod_happen_61 : zd_l .aload_n .aload b_Mod_happen 61 0 62 := Or.inl ⟨0, rfl, by decide +kernel, rfl⟩
theorem d_Mod_happen_62 : zd b_Mod_happen 62 (.getfield 19) 3 65 := ⟨by decide +kernel, rfl⟩
theorem d_Mod_happen_65 : zd_l .iload_n .iload b_Mod_happen 65 5 67 := Or.inr ⟨by decide +kernel, rfl⟩
theorem d_Mod_happen_67 : zd b_Mod_happen 67 .iaload 1 68 := ⟨by decide +kernel, rfl⟩
theorem d_Mod_happen_68 : zd_b b_Mod_happen 68 (.ifCond .ne) 71 79 := ⟨11, by decide +kernel, by decide, rfl⟩
theorem d_Mod_happen_71 : zd_l .iload_n .iload b_Mod_happen 71 4 73 := Or.inr ⟨by decide +kernel, rfl⟩
theorem d_Mod_happen_73 : zd_l .iload_n .iload b_Mod_happen 73 6 75 := Or.inr ⟨by decide +kernel, rfl⟩
theorem d_Mod_happen_75 : zd b_Mod_happen 75 .ior 1 76 := ⟨by decide +kernel, rfl⟩
theorem d_Mod_happen_76 : zd_b b_Mod_happen 76 .goto 79 105 := ⟨29, by decide +kernel, by decide, rfl⟩
theorem d_Mod_happen_79 : zd_l .aload_n .aload b_Mod_happen 79 0 80 := Or.inl ⟨0, rfl, by decide +kernel, rfl⟩
theorem d_Mod_happen_80 : zd b_Mod_happen 80 (.getfield 19) 3 83 := ⟨by decide +kernel, rfl⟩
theorem d_Mod_happen_83 : zd_l .iload_n .iload b_Mod_happen 83 5 85 := Or.inr ⟨by decide +kernel, rfl⟩
theorem d_Mod_happen_85 : zd b_Mod_happen 85 .iaload 1 86 := ⟨by decide +kernel, rfl⟩
theorem d_Mod_happen_86 : zd_k b_Mod_happen "SameTuesdayModel" 86 1 87 := Or.inl ⟨1, by decide +kernel, by decide, rfl⟩
theorem d_Mod_happen_87 : zd_b b_Mod_happen 87 (.if_icmp .ne) 90 100 := ⟨13, by decide +kernel, by decide, rfl⟩
theorem d_Mod_happen_90 : zd_l .iload_n .iload b_Mod_happen 90 4 92 := Or.inr ⟨by decide +kernel, rfl⟩
theorem d_Mod_happen_92 : zd_l .iload_n .iload b_Mod_happen 92 6 94 := Or.inr ⟨by decide +kernel, rfl⟩
theorem d_Mod_happen_94 : zd_k b_Mod_happen "SameTuesdayModel" 94 (-1) 95 := Or.inl ⟨(-1), by decide +kernel, by decide, rfl⟩
theorem d_Mod_happen_95 : zd b_Mod_happen 95 .ixor 1 96 := ⟨by decide +kernel, rfl⟩
theorem d_Mod_happen_96 : zd b_Mod_happen 96 .iand 1 97 := ⟨by decide +kernel, rfl⟩
theorem d_Mod_happen_97 : zd_b b_Mod_happen 97 .goto 100 105 := ⟨8, by decide +kernel, by decide, rfl⟩
theorem d_Mod_happen_100 : zd_l .iload_n .iload b_Mod_happen 100 4 102 := Or.inr ⟨by decide +kernel, rfl⟩
theorem d_Mod_happen_102 : zd_l .iload_n .iload b_Mod_happen 102 6 104 := Or.inr ⟨by decide +kernel, rfl⟩
theorem d_Mod_happen_104 : zd b_Mod_happen 104 .ixor 1 105 := ⟨by decide +kernel, rfl⟩
theorem d_Mod_happen_105 : zd_l .istore_n .istore b_Mod_happen 105 4 107 := Or.inr ⟨by decide +kernel, rfl⟩
theorem d_Mod_happen_107 : zd_i b_Mod_happen 107 5 1 1 110 := ⟨by decide +kernel, by decide, rfl⟩
theorem d_Mod_happen_110 : zd_b b_Mod_happen 110 .goto 113 6 := ⟨(-104), by decide +kernel, by decide, rfl⟩
theorem d_Mod_happen_113 : zd_l .iload_n .iload b_Mod_happen 113 4 115 := Or.inr ⟨by decide +kernel, rfl⟩
theorem d_Mod_happen_115 : zd b_Mod_happen 115 .ireturn 1 116 := ⟨by decide +kernel, rfl⟩
theorem d_Mod_done_0 : zd_l .iload_n .iload b_Mod_done 0 1 1 := Or.inl ⟨1, rfl, by decide +kernel, rfl⟩
theorem d_Mod_done_1 : zd_k b_Mod_done "SameTuesdayModel" 1 1 2 := Or.inl ⟨1, by decide +kernel, by decide, rfl⟩
theorem d_Mod_done_2 : zd_l .aload_n .aload b_Mod_done 2 0 3 := Or.inl ⟨0, rfl, by decide +kernel, rfl⟩
theorem d_Mod_done_3 : zd b_Mod_done 3 (.getfield 34) 3 6 := ⟨by decide +kernel, rfl⟩
theorem d_Mod_done_6 : zd_l .iload_n .iload b_Mod_done 6 2 7 := Or.inl ⟨2, rfl, by decide +kernel, rfl⟩
theorem d_Mod_done_7 : zd b_Mod_done 7 .iaload 1 8 := ⟨by decide +kernel, rfl⟩
theorem d_Mod_done_8 : zd b_Mod_done 8 .ishl 1 9 := ⟨by decide +kernel, rfl⟩
theorem d_Mod_done_9 : zd b_Mod_done 9 .ior 1 10 := ⟨by decide +kernel, rfl⟩
theorem d_Mod_done_10 : zd_l .istore_n .istore b_Mod_done 10 3 11 := Or.inl ⟨3, rfl, by decide +kernel, rfl⟩
theorem d_Mod_done_11 : zd_l .aload_n .aload b_Mod_done 11 0 12 := Or.inl ⟨0, rfl, by decide +kernel, rfl⟩
theorem d_Mod_done_12 : zd b_Mod_done 12 (.getfield 37) 3 15 := ⟨by decide +kernel, rfl⟩
theorem d_Mod_done_15 : zd_l .iload_n .iload b_Mod_done 15 2 16 := Or.inl ⟨2, rfl, by decide +kernel, rfl⟩
theorem d_Mod_done_16 : zd b_Mod_done 16 .iaload 1 17 := ⟨by decide +kernel, rfl⟩
theorem d_Mod_done_17 : zd_k b_Mod_done "SameTuesdayModel" 17 6 19 := Or.inr (Or.inl ⟨6, by decide +kernel, by decide, rfl⟩)
theorem d_Mod_done_19 : zd_b b_Mod_done 19 (.if_icmp .ne) 22 26 := ⟨7, by decide +kernel, by decide, rfl⟩
theorem d_Mod_done_22 : zd_l .iload_n .iload b_Mod_done 22 3 23 := Or.inl ⟨3, rfl, by decide +kernel, rfl⟩
theorem d_Mod_done_23 : zd_b b_Mod_done 23 .goto 26 38 := ⟨15, by decide +kernel, by decide, rfl⟩
theorem d_Mod_done_26 : zd_l .iload_n .iload b_Mod_done 26 3 27 := Or.inl ⟨3, rfl, by decide +kernel, rfl⟩
theorem d_Mod_done_27 : zd_k b_Mod_done "SameTuesdayModel" 27 1 28 := Or.inl ⟨1, by decide +kernel, by decide, rfl⟩
theorem d_Mod_done_28 : zd_l .aload_n .aload b_Mod_done 28 0 29 := Or.inl ⟨0, rfl, by decide +kernel, rfl⟩
theorem d_Mod_done_29 : zd b_Mod_done 29 (.getfield 37) 3 32 := ⟨by decide +kernel, rfl⟩
theorem d_Mod_done_32 : zd_l .iload_n .iload b_Mod_done 32 2 33 := Or.inl ⟨2, rfl, by decide +kernel, rfl⟩
theorem d_Mod_done_33 : zd b_Mod_done 33 .iaload 1 34 := ⟨by decide +kernel, rfl⟩
theorem d_Mod_done_34 : zd b_Mod_done 34 .ishl 1 35 := ⟨by decide +kernel, rfl⟩
theorem d_Mod_done_35 : zd_k b_Mod_done "SameTuesdayModel" 35 (-1) 36 := Or.inl ⟨(-1), by decide +kernel, by decide, rfl⟩
theorem d_Mod_done_36 : zd b_Mod_done 36 .ixor 1 37 := ⟨by decide +kernel, rfl⟩
theorem d_Mod_done_37 : zd b_Mod_done 37 .iand 1 38 := ⟨by decide +kernel, rfl⟩
theorem d_Mod_done_38 : zd b_Mod_done 38 .ireturn 1 39 := ⟨by decide +kernel, rfl⟩
theorem d_Mod_mayBegin_0 : zd_l .aload_n .aload b_Mod_mayBegin 0 0 1 := Or.inl ⟨0, rfl, by decide +kernel, rfl⟩
theorem d_Mod_mayBegin_1 : zd b_Mod_mayBegin 1 (.getfield 31) 3 4 := ⟨by decide +kernel, rfl⟩
theorem d_Mod_mayBegin_4 : zd_l .iload_n .iload b_Mod_mayBegin 4 2 5 := Or.inl ⟨2, rfl, by decide +kernel, rfl⟩
theorem d_Mod_mayBegin_5 : zd b_Mod_mayBegin 5 .iaload 1 6 := ⟨by decide +kernel, rfl⟩
theorem d_Mod_mayBegin_6 : zd_l .iload_n .iload b_Mod_mayBegin 6 1 7 := Or.inl ⟨1, rfl, by decide +kernel, rfl⟩
theorem d_Mod_mayBegin_7 : zd b_Mod_mayBegin 7 (.invokestatic 146) 3 10 := ⟨by decide +kernel, rfl⟩
theorem d_Mod_mayBegin_10 : zd_b b_Mod_mayBegin 10 (.ifCond .eq) 13 32 := ⟨22, by decide +kernel, by decide, rfl⟩
theorem d_Mod_mayBegin_13 : zd_l .iload_n .iload b_Mod_mayBegin 13 3 14 := Or.inl ⟨3, rfl, by decide +kernel, rfl⟩
theorem d_Mod_mayBegin_14 : zd_l .aload_n .aload b_Mod_mayBegin 14 0 15 := Or.inl ⟨0, rfl, by decide +kernel, rfl⟩
theorem d_Mod_mayBegin_15 : zd b_Mod_mayBegin 15 (.getfield 40) 3 18 := ⟨by decide +kernel, rfl⟩
theorem d_Mod_mayBegin_18 : zd_l .iload_n .iload b_Mod_mayBegin 18 2 19 := Or.inl ⟨2, rfl, by decide +kernel, rfl⟩
theorem d_Mod_mayBegin_19 : zd b_Mod_mayBegin 19 .iaload 1 20 := ⟨by decide +kernel, rfl⟩
theorem d_Mod_mayBegin_20 : zd b_Mod_mayBegin 20 .iadd 1 21 := ⟨by decide +kernel, rfl⟩
theorem d_Mod_mayBegin_21 : zd_l .aload_n .aload b_Mod_mayBegin 21 0 22 := Or.inl ⟨0, rfl, by decide +kernel, rfl⟩
theorem d_Mod_mayBegin_22 : zd b_Mod_mayBegin 22 (.getfield 120) 3 25 := ⟨by decide +kernel, rfl⟩
theorem d_Mod_mayBegin_25 : zd_b b_Mod_mayBegin 25 (.if_icmp .ge) 28 32 := ⟨7, by decide +kernel, by decide, rfl⟩
theorem d_Mod_mayBegin_28 : zd_k b_Mod_mayBegin "SameTuesdayModel" 28 1 29 := Or.inl ⟨1, by decide +kernel, by decide, rfl⟩
theorem d_Mod_mayBegin_29 : zd_b b_Mod_mayBegin 29 .goto 32 33 := ⟨4, by decide +kernel, by decide, rfl⟩
theorem d_Mod_mayBegin_32 : zd_k b_Mod_mayBegin "SameTuesdayModel" 32 0 33 := Or.inl ⟨0, by decide +kernel, by decide, rfl⟩
theorem d_Mod_mayBegin_33 : zd b_Mod_mayBegin 33 .ireturn 1 34 := ⟨by decide +kernel, rfl⟩
theorem d_Mod_pairIn_0 : zd_k b_Mod_pairIn "SameTuesdayModel" 0 (-9) 2 := Or.inr (Or.inl ⟨(-9), by decide +kernel, by decide, rfl⟩)
theorem d_Mod_pairIn_2 : zd_l .istore_n .istore b_Mod_pairIn 2 2 3 := Or.inl ⟨2, rfl, by decide +kernel, rfl⟩
theorem d_Mod_pairIn_3 : zd_k b_Mod_pairIn "SameTuesdayModel" 3 0 4 := Or.inl ⟨0, by decide +kernel, by decide, rfl⟩
theorem d_Mod_pairIn_4 : zd_l .istore_n .istore b_Mod_pairIn 4 3 5 := Or.inl ⟨3, rfl, by decide +kernel, rfl⟩
theorem d_Mod_pairIn_5 : zd_l .iload_n .iload b_Mod_pairIn 5 3 6 := Or.inl ⟨3, rfl, by decide +kernel, rfl⟩
theorem d_Mod_pairIn_6 : zd_l .aload_n .aload b_Mod_pairIn 6 0 7 := Or.inl ⟨0, rfl, by decide +kernel, rfl⟩
theorem d_Mod_pairIn_7 : zd b_Mod_pairIn 7 (.getfield 149) 3 10 := ⟨by decide +kernel, rfl⟩
theorem d_Mod_pairIn_10 : zd_b b_Mod_pairIn 10 (.if_icmp .ge) 13 57 := ⟨47, by decide +kernel, by decide, rfl⟩
theorem d_Mod_pairIn_13 : zd_l .aload_n .aload b_Mod_pairIn 13 0 14 := Or.inl ⟨0, rfl, by decide +kernel, rfl⟩
theorem d_Mod_pairIn_14 : zd b_Mod_pairIn 14 (.getfield 49) 3 17 := ⟨by decide +kernel, rfl⟩
theorem d_Mod_pairIn_17 : zd_l .iload_n .iload b_Mod_pairIn 17 3 18 := Or.inl ⟨3, rfl, by decide +kernel, rfl⟩
theorem d_Mod_pairIn_18 : zd b_Mod_pairIn 18 .iaload 1 19 := ⟨by decide +kernel, rfl⟩
theorem d_Mod_pairIn_19 : zd_l .iload_n .iload b_Mod_pairIn 19 1 20 := Or.inl ⟨1, rfl, by decide +kernel, rfl⟩
theorem d_Mod_pairIn_20 : zd_b b_Mod_pairIn 20 (.if_icmp .ne) 23 30 := ⟨10, by decide +kernel, by decide, rfl⟩
theorem d_Mod_pairIn_23 : zd_l .iload_n .iload b_Mod_pairIn 23 1 24 := Or.inl ⟨1, rfl, by decide +kernel, rfl⟩
theorem d_Mod_pairIn_24 : zd_l .iload_n .iload b_Mod_pairIn 24 2 25 := Or.inl ⟨2, rfl, by decide +kernel, rfl⟩
theorem d_Mod_pairIn_25 : zd_b b_Mod_pairIn 25 (.if_icmp .le) 28 30 := ⟨5, by decide +kernel, by decide, rfl⟩
theorem d_Mod_pairIn_28 : zd_l .iload_n .iload b_Mod_pairIn 28 3 29 := Or.inl ⟨3, rfl, by decide +kernel, rfl⟩
theorem d_Mod_pairIn_29 : zd b_Mod_pairIn 29 .ireturn 1 30 := ⟨by decide +kernel, rfl⟩
theorem d_Mod_pairIn_30 : zd_l .aload_n .aload b_Mod_pairIn 30 0 31 := Or.inl ⟨0, rfl, by decide +kernel, rfl⟩
theorem d_Mod_pairIn_31 : zd b_Mod_pairIn 31 (.getfield 49) 3 34 := ⟨by decide +kernel, rfl⟩
theorem d_Mod_pairIn_34 : zd_l .iload_n .iload b_Mod_pairIn 34 3 35 := Or.inl ⟨3, rfl, by decide +kernel, rfl⟩
theorem d_Mod_pairIn_35 : zd b_Mod_pairIn 35 .iaload 1 36 := ⟨by decide +kernel, rfl⟩
theorem d_Mod_pairIn_36 : zd_l .iload_n .iload b_Mod_pairIn 36 2 37 := Or.inl ⟨2, rfl, by decide +kernel, rfl⟩
theorem d_Mod_pairIn_37 : zd_b b_Mod_pairIn 37 (.if_icmp .le) 40 49 := ⟨12, by decide +kernel, by decide, rfl⟩
theorem d_Mod_pairIn_40 : zd_l .aload_n .aload b_Mod_pairIn 40 0 41 := Or.inl ⟨0, rfl, by decide +kernel, rfl⟩
theorem d_Mod_pairIn_41 : zd b_Mod_pairIn 41 (.getfield 49) 3 44 := ⟨by decide +kernel, rfl⟩
theorem d_Mod_pairIn_44 : zd_l .iload_n .iload b_Mod_pairIn 44 3 45 := Or.inl ⟨3, rfl, by decide +kernel, rfl⟩
theorem d_Mod_pairIn_45 : zd b_Mod_pairIn 45 .iaload 1 46 := ⟨by decide +kernel, rfl⟩
theorem d_Mod_pairIn_46 : zd_b b_Mod_pairIn 46 .goto 49 50 := ⟨4, by decide +kernel, by decide, rfl⟩
theorem d_Mod_pairIn_49 : zd_l .iload_n .iload b_Mod_pairIn 49 2 50 := Or.inl ⟨2, rfl, by decide +kernel, rfl⟩
theorem d_Mod_pairIn_50 : zd_l .istore_n .istore b_Mod_pairIn 50 2 51 := Or.inl ⟨2, rfl, by decide +kernel, rfl⟩
theorem d_Mod_pairIn_51 : zd_i b_Mod_pairIn 51 3 1 1 54 := ⟨by decide +kernel, by decide, rfl⟩
theorem d_Mod_pairIn_54 : zd_b b_Mod_pairIn 54 .goto 57 5 := ⟨(-49), by decide +kernel, by decide, rfl⟩
theorem d_Mod_pairIn_57 : zd_k b_Mod_pairIn "SameTuesdayModel" 57 (-9) 59 := Or.inr (Or.inl ⟨(-9), by decide +kernel, by decide, rfl⟩)
theorem d_Mod_pairIn_59 : zd b_Mod_pairIn 59 .ireturn 1 60 := ⟨by decide +kernel, rfl⟩
theorem d_Mod_goTo_0 : zd_k b_Mod_goTo "SameTuesdayModel" 0 0 1 := Or.inl ⟨0, by decide +kernel, by decide, rfl⟩
theorem d_Mod_goTo_1 : zd_l .istore_n .istore b_Mod_goTo 1 3 2 := Or.inl ⟨3, rfl, by decide +kernel, rfl⟩
theorem d_Mod_goTo_2 : zd_k b_Mod_goTo "SameTuesdayModel" 2 (-9) 4 := Or.inr (Or.inl ⟨(-9), by decide +kernel, by decide, rfl⟩)
theorem d_Mod_goTo_4 : zd_l .istore_n .istore b_Mod_goTo 4 4 6 := Or.inr ⟨by decide +kernel, rfl⟩
theorem d_Mod_goTo_6 : zd_k b_Mod_goTo "SameTuesdayModel" 6 0 7 := Or.inl ⟨0, by decide +kernel, by decide, rfl⟩
theorem d_Mod_goTo_7 : zd_l .istore_n .istore b_Mod_goTo 7 5 9 := Or.inr ⟨by decide +kernel, rfl⟩
theorem d_Mod_goTo_9 : zd_l .aload_n .aload b_Mod_goTo 9 0 10 := Or.inl ⟨0, rfl, by decide +kernel, rfl⟩
theorem d_Mod_goTo_10 : zd_k b_Mod_goTo "SameTuesdayModel" 10 0 11 := Or.inl ⟨0, by decide +kernel, by decide, rfl⟩
theorem d_Mod_goTo_11 : zd b_Mod_goTo 11 (.putfield 152) 3 14 := ⟨by decide +kernel, rfl⟩
theorem d_Mod_goTo_14 : zd_k b_Mod_goTo "SameTuesdayModel" 14 0 15 := Or.inl ⟨0, by decide +kernel, by decide, rfl⟩
theorem d_Mod_goTo_15 : zd_l .istore_n .istore b_Mod_goTo 15 6 17 := Or.inr ⟨by decide +kernel, rfl⟩
theorem d_Mod_goTo_17 : zd_l .iload_n .iload b_Mod_goTo 17 6 19 := Or.inr ⟨by decide +kernel, rfl⟩
theorem d_Mod_goTo_19 : zd_l .aload_n .aload b_Mod_goTo 19 0 20 := Or.inl ⟨0, rfl, by decide +kernel, rfl⟩
theorem d_Mod_goTo_20 : zd b_Mod_goTo 20 (.getfield 149) 3 23 := ⟨by decide +kernel, rfl⟩
theorem d_Mod_goTo_23 : zd_b b_Mod_goTo 23 (.if_icmp .ge) 26 40 := ⟨17, by decide +kernel, by decide, rfl⟩
theorem d_Mod_goTo_26 : zd_l .aload_n .aload b_Mod_goTo 26 0 27 := Or.inl ⟨0, rfl, by decide +kernel, rfl⟩
theorem d_Mod_goTo_27 : zd b_Mod_goTo 27 (.getfield 55) 3 30 := ⟨by decide +kernel, rfl⟩
theorem d_Mod_goTo_30 : zd_l .iload_n .iload b_Mod_goTo 30 6 32 := Or.inr ⟨by decide +kernel, rfl⟩
theorem d_Mod_goTo_32 : zd_k b_Mod_goTo "SameTuesdayModel" 32 1 33 := Or.inl ⟨1, by decide +kernel, by decide, rfl⟩
theorem d_Mod_goTo_33 : zd b_Mod_goTo 33 .bastore 1 34 := ⟨by decide +kernel, rfl⟩
theorem d_Mod_goTo_34 : zd_i b_Mod_goTo 34 6 1 1 37 := ⟨by decide +kernel, by decide, rfl⟩
theorem d_Mod_goTo_37 : zd_b b_Mod_goTo 37 .goto 40 17 := ⟨(-20), by decide +kernel, by decide, rfl⟩
theorem d_Mod_goTo_40 : zd_k b_Mod_goTo "SameTuesdayModel" 40 0 41 := Or.inl ⟨0, by decide +kernel, by decide, rfl⟩
theorem d_Mod_goTo_41 : zd_l .istore_n .istore b_Mod_goTo 41 6 43 := Or.inr ⟨by decide +kernel, rfl⟩
theorem d_Mod_goTo_43 : zd_l .iload_n .iload b_Mod_goTo 43 6 45 := Or.inr ⟨by decide +kernel, rfl⟩
theorem d_Mod_goTo_45 : zd_l .aload_n .aload b_Mod_goTo 45 0 46 := Or.inl ⟨0, rfl, by decide +kernel, rfl⟩
theorem d_Mod_goTo_46 : zd b_Mod_goTo 46 (.getfield 120) 3 49 := ⟨by decide +kernel, rfl⟩
theorem d_Mod_goTo_49 : zd_b b_Mod_goTo 49 (.if_icmp .ge) 52 236 := ⟨187, by decide +kernel, by decide, rfl⟩
theorem d_Mod_goTo_52 : zd_l .iload_n .iload b_Mod_goTo 52 6 54 := Or.inr ⟨by decide +kernel, rfl⟩
theorem d_Mod_goTo_54 : zd_l .iload_n .iload b_Mod_goTo 54 1 55 := Or.inl ⟨1, rfl, by decide +kernel, rfl⟩
theorem d_Mod_goTo_55 : zd_b b_Mod_goTo 55 (.if_icmp .gt) 58 236 := ⟨181, by decide +kernel, by decide, rfl⟩
theorem d_Mod_goTo_58 : zd_l .aload_n .aload b_Mod_goTo 58 0 59 := Or.inl ⟨0, rfl, by decide +kernel, rfl⟩
theorem d_Mod_goTo_59 : zd_l .iload_n .iload b_Mod_goTo 59 3 60 := Or.inl ⟨3, rfl, by decide +kernel, rfl⟩
theorem d_Mod_goTo_60 : zd_l .iload_n .iload b_Mod_goTo 60 6 62 := Or.inr ⟨by decide +kernel, rfl⟩
theorem d_Mod_goTo_62 : zd_l .iload_n .iload b_Mod_goTo 62 2 63 := Or.inl ⟨2, rfl, by decide +kernel, rfl⟩
theorem d_Mod_goTo_63 : zd b_Mod_goTo 63 (.invokevirtual 156) 3 66 := ⟨by decide +kernel, rfl⟩
theorem d_Mod_goTo_66 : zd_l .istore_n .istore b_Mod_goTo 66 3 67 := Or.inl ⟨3, rfl, by decide +kernel, rfl⟩
theorem d_Mod_goTo_67 : zd_l .iload_n .iload b_Mod_goTo 67 4 69 := Or.inr ⟨by decide +kernel, rfl⟩
theorem d_Mod_goTo_69 : zd_k b_Mod_goTo "SameTuesdayModel" 69 (-9) 71 := Or.inr (Or.inl ⟨(-9), by decide +kernel, by decide, rfl⟩)
theorem d_Mod_goTo_71 : zd_b b_Mod_goTo 71 (.if_icmp .eq) 74 93 := ⟨22, by decide +kernel, by decide, rfl⟩
theorem d_Mod_goTo_74 : zd_l .iload_n .iload b_Mod_goTo 74 5 76 := Or.inr ⟨by decide +kernel, rfl⟩
theorem d_Mod_goTo_76 : zd_l .iload_n .iload b_Mod_goTo 76 6 78 := Or.inr ⟨by decide +kernel, rfl⟩
theorem d_Mod_goTo_78 : zd_b b_Mod_goTo 78 (.if_icmp .ne) 81 93 := ⟨15, by decide +kernel, by decide, rfl⟩
theorem d_Mod_goTo_81 : zd_l .aload_n .aload b_Mod_goTo 81 0 82 := Or.inl ⟨0, rfl, by decide +kernel, rfl⟩
theorem d_Mod_goTo_82 : zd_l .iload_n .iload b_Mod_goTo 82 3 83 := Or.inl ⟨3, rfl, by decide +kernel, rfl⟩
theorem d_Mod_goTo_83 : zd_l .iload_n .iload b_Mod_goTo 83 4 85 := Or.inr ⟨by decide +kernel, rfl⟩
theorem d_Mod_goTo_85 : zd b_Mod_goTo 85 (.invokevirtual 159) 3 88 := ⟨by decide +kernel, rfl⟩
theorem d_Mod_goTo_88 : zd_l .istore_n .istore b_Mod_goTo 88 3 89 := Or.inl ⟨3, rfl, by decide +kernel, rfl⟩
theorem d_Mod_goTo_89 : zd_k b_Mod_goTo "SameTuesdayModel" 89 (-9) 91 := Or.inr (Or.inl ⟨(-9), by decide +kernel, by decide, rfl⟩)
theorem d_Mod_goTo_91 : zd_l .istore_n .istore b_Mod_goTo 91 4 93 := Or.inr ⟨by decide +kernel, rfl⟩
theorem d_Mod_goTo_93 : zd_l .aload_n .aload b_Mod_goTo 93 0 94 := Or.inl ⟨0, rfl, by decide +kernel, rfl⟩
theorem d_Mod_goTo_94 : zd b_Mod_goTo 94 (.getfield 152) 3 97 := ⟨by decide +kernel, rfl⟩
theorem d_Mod_goTo_97 : zd_b b_Mod_goTo 97 (.ifCond .eq) 100 129 := ⟨32, by decide +kernel, by decide, rfl⟩
theorem d_Mod_goTo_100 : zd_l .aload_n .aload b_Mod_goTo 100 0 101 := Or.inl ⟨0, rfl, by decide +kernel, rfl⟩
theorem d_Mod_goTo_101 : zd b_Mod_goTo 101 (.getfield 163) 3 104 := ⟨by decide +kernel, rfl⟩
theorem d_Mod_goTo_104 : zd_l .aload_n .aload b_Mod_goTo 104 0 105 := Or.inl ⟨0, rfl, by decide +kernel, rfl⟩
theorem d_Mod_goTo_105 : zd b_Mod_goTo 105 (.getfield 40) 3 108 := ⟨by decide +kernel, rfl⟩
theorem d_Mod_goTo_108 : zd_l .aload_n .aload b_Mod_goTo 108 0 109 := Or.inl ⟨0, rfl, by decide +kernel, rfl⟩
theorem d_Mod_goTo_109 : zd b_Mod_goTo 109 (.getfield 59) 3 112 := ⟨by decide +kernel, rfl⟩
theorem d_Mod_goTo_112 : zd b_Mod_goTo 112 .iaload 1 113 := ⟨by decide +kernel, rfl⟩
theorem d_Mod_goTo_113 : zd b_Mod_goTo 113 .iadd 1 114 := ⟨by decide +kernel, rfl⟩
theorem d_Mod_goTo_114 : zd_l .iload_n .iload b_Mod_goTo 114 6 116 := Or.inr ⟨by decide +kernel, rfl⟩
theorem d_Mod_goTo_116 : zd_b b_Mod_goTo 116 (.if_icmp .ne) 119 129 := ⟨13, by decide +kernel, by decide, rfl⟩
theorem d_Mod_goTo_119 : zd_l .aload_n .aload b_Mod_goTo 119 0 120 := Or.inl ⟨0, rfl, by decide +kernel, rfl⟩
theorem d_Mod_goTo_120 : zd_l .iload_n .iload b_Mod_goTo 120 3 121 := Or.inl ⟨3, rfl, by decide +kernel, rfl⟩
theorem d_Mod_goTo_121 : zd_l .aload_n .aload b_Mod_goTo 121 0 122 := Or.inl ⟨0, rfl, by decide +kernel, rfl⟩
theorem d_Mod_goTo_122 : zd b_Mod_goTo 122 (.getfield 59) 3 125 := ⟨by decide +kernel, rfl⟩
theorem d_Mod_goTo_125 : zd b_Mod_goTo 125 (.invokevirtual 159) 3 128 := ⟨by decide +kernel, rfl⟩
theorem d_Mod_goTo_128 : zd_l .istore_n .istore b_Mod_goTo 128 3 129 := Or.inl ⟨3, rfl, by decide +kernel, rfl⟩
theorem d_Mod_goTo_129 : zd_l .aload_n .aload b_Mod_goTo 129 0 130 := Or.inl ⟨0, rfl, by decide +kernel, rfl⟩
theorem d_Mod_goTo_130 : zd_l .iload_n .iload b_Mod_goTo 130 6 132 := Or.inr ⟨by decide +kernel, rfl⟩
theorem d_Mod_goTo_132 : zd b_Mod_goTo 132 (.invokevirtual 166) 3 135 := ⟨by decide +kernel, rfl⟩
theorem d_Mod_goTo_135 : zd_l .istore_n .istore b_Mod_goTo 135 7 137 := Or.inr ⟨by decide +kernel, rfl⟩
theorem d_Mod_goTo_137 : zd_l .iload_n .iload b_Mod_goTo 137 7 139 := Or.inr ⟨by decide +kernel, rfl⟩
theorem d_Mod_goTo_139 : zd_k b_Mod_goTo "SameTuesdayModel" 139 (-9) 141 := Or.inr (Or.inl ⟨(-9), by decide +kernel, by decide, rfl⟩)
theorem d_Mod_goTo_141 : zd_b b_Mod_goTo 141 (.if_icmp .eq) 144 197 := ⟨56, by decide +kernel, by decide, rfl⟩
theorem d_Mod_goTo_144 : zd_l .iload_n .iload b_Mod_goTo 144 4 146 := Or.inr ⟨by decide +kernel, rfl⟩
theorem d_Mod_goTo_146 : zd_k b_Mod_goTo "SameTuesdayModel" 146 (-9) 148 := Or.inr (Or.inl ⟨(-9), by decide +kernel, by decide, rfl⟩)
theorem d_Mod_goTo_148 : zd_b b_Mod_goTo 148 (.if_icmp .ne) 151 197 := ⟨49, by decide +kernel, by decide, rfl⟩
theorem d_Mod_goTo_151 : zd_l .aload_n .aload b_Mod_goTo 151 0 152 := Or.inl ⟨0, rfl, by decide +kernel, rfl⟩
theorem d_Mod_goTo_152 : zd_l .iload_n .iload b_Mod_goTo 152 3 153 := Or.inl ⟨3, rfl, by decide +kernel, rfl⟩
theorem d_Mod_goTo_153 : zd_l .aload_n .aload b_Mod_goTo 153 0 154 := Or.inl ⟨0, rfl, by decide +kernel, rfl⟩
theorem d_Mod_goTo_154 : zd b_Mod_goTo 154 (.getfield 52) 3 157 := ⟨by decide +kernel, rfl⟩
theorem d_Mod_goTo_157 : zd_l .iload_n .iload b_Mod_goTo 157 7 159 := Or.inr ⟨by decide +kernel, rfl⟩
theorem d_Mod_goTo_159 : zd b_Mod_goTo 159 .iaload 1 160 := ⟨by decide +kernel, rfl⟩
theorem d_Mod_goTo_160 : zd_l .iload_n .iload b_Mod_goTo 160 6 162 := Or.inr ⟨by decide +kernel, rfl⟩
theorem d_Mod_goTo_162 : zd b_Mod_goTo 162 (.invokevirtual 169) 3 165 := ⟨by decide +kernel, rfl⟩
theorem d_Mod_goTo_165 : zd_b b_Mod_goTo 165 (.ifCond .eq) 168 197 := ⟨32, by decide +kernel, by decide, rfl⟩
theorem d_Mod_goTo_168 : zd_l .aload_n .aload b_Mod_goTo 168 0 169 := Or.inl ⟨0, rfl, by decide +kernel, rfl⟩
theorem d_Mod_goTo_169 : zd b_Mod_goTo 169 (.getfield 55) 3 172 := ⟨by decide +kernel, rfl⟩
theorem d_Mod_goTo_172 : zd_l .iload_n .iload b_Mod_goTo 172 7 174 := Or.inr ⟨by decide +kernel, rfl⟩
theorem d_Mod_goTo_174 : zd_k b_Mod_goTo "SameTuesdayModel" 174 0 175 := Or.inl ⟨0, by decide +kernel, by decide, rfl⟩
theorem d_Mod_goTo_175 : zd b_Mod_goTo 175 .bastore 1 176 := ⟨by decide +kernel, rfl⟩
theorem d_Mod_goTo_176 : zd_l .aload_n .aload b_Mod_goTo 176 0 177 := Or.inl ⟨0, rfl, by decide +kernel, rfl⟩
theorem d_Mod_goTo_177 : zd b_Mod_goTo 177 (.getfield 52) 3 180 := ⟨by decide +kernel, rfl⟩
theorem d_Mod_goTo_180 : zd_l .iload_n .iload b_Mod_goTo 180 7 182 := Or.inr ⟨by decide +kernel, rfl⟩
theorem d_Mod_goTo_182 : zd b_Mod_goTo 182 .iaload 1 183 := ⟨by decide +kernel, rfl⟩
theorem d_Mod_goTo_183 : zd_l .istore_n .istore b_Mod_goTo 183 4 185 := Or.inr ⟨by decide +kernel, rfl⟩
theorem d_Mod_goTo_185 : zd_l .iload_n .iload b_Mod_goTo 185 6 187 := Or.inr ⟨by decide +kernel, rfl⟩
theorem d_Mod_goTo_187 : zd_l .aload_n .aload b_Mod_goTo 187 0 188 := Or.inl ⟨0, rfl, by decide +kernel, rfl⟩
theorem d_Mod_goTo_188 : zd b_Mod_goTo 188 (.getfield 40) 3 191 := ⟨by decide +kernel, rfl⟩
theorem d_Mod_goTo_191 : zd_l .iload_n .iload b_Mod_goTo 191 4 193 := Or.inr ⟨by decide +kernel, rfl⟩
theorem d_Mod_goTo_193 : zd b_Mod_goTo 193 .iaload 1 194 := ⟨by decide +kernel, rfl⟩
theorem d_Mod_goTo_194 : zd b_Mod_goTo 194 .iadd 1 195 := ⟨by decide +kernel, rfl⟩
theorem d_Mod_goTo_195 : zd_l .istore_n .istore b_Mod_goTo 195 5 197 := Or.inr ⟨by decide +kernel, rfl⟩
theorem d_Mod_goTo_197 : zd_l .aload_n .aload b_Mod_goTo 197 0 198 := Or.inl ⟨0, rfl, by decide +kernel, rfl⟩
theorem d_Mod_goTo_198 : zd b_Mod_goTo 198 (.getfield 59) 3 201 := ⟨by decide +kernel, rfl⟩
theorem d_Mod_goTo_201 : zd_k b_Mod_goTo "SameTuesdayModel" 201 (-9) 203 := Or.inr (Or.inl ⟨(-9), by decide +kernel, by decide, rfl⟩)
theorem d_Mod_goTo_203 : zd_b b_Mod_goTo 203 (.if_icmp .eq) 206 230 := ⟨27, by decide +kernel, by decide, rfl⟩
theorem d_Mod_goTo_206 : zd_l .aload_n .aload b_Mod_goTo 206 0 207 := Or.inl ⟨0, rfl, by decide +kernel, rfl⟩
theorem d_Mod_goTo_207 : zd b_Mod_goTo 207 (.getfield 163) 3 210 := ⟨by decide +kernel, rfl⟩
theorem d_Mod_goTo_210 : zd_l .iload_n .iload b_Mod_goTo 210 6 212 := Or.inr ⟨by decide +kernel, rfl⟩
theorem d_Mod_goTo_212 : zd_b b_Mod_goTo 212 (.if_icmp .ne) 215 230 := ⟨18, by decide +kernel, by decide, rfl⟩
theorem d_Mod_goTo_215 : zd_l .aload_n .aload b_Mod_goTo 215 0 216 := Or.inl ⟨0, rfl, by decide +kernel, rfl⟩
theorem d_Mod_goTo_216 : zd_l .aload_n .aload b_Mod_goTo 216 0 217 := Or.inl ⟨0, rfl, by decide +kernel, rfl⟩
theorem d_Mod_goTo_217 : zd_l .iload_n .iload b_Mod_goTo 217 3 218 := Or.inl ⟨3, rfl, by decide +kernel, rfl⟩
theorem d_Mod_goTo_218 : zd_l .aload_n .aload b_Mod_goTo 218 0 219 := Or.inl ⟨0, rfl, by decide +kernel, rfl⟩
theorem d_Mod_goTo_219 : zd b_Mod_goTo 219 (.getfield 59) 3 222 := ⟨by decide +kernel, rfl⟩
theorem d_Mod_goTo_222 : zd_l .iload_n .iload b_Mod_goTo 222 6 224 := Or.inr ⟨by decide +kernel, rfl⟩
theorem d_Mod_goTo_224 : zd b_Mod_goTo 224 (.invokevirtual 169) 3 227 := ⟨by decide +kernel, rfl⟩
theorem d_Mod_goTo_227 : zd b_Mod_goTo 227 (.putfield 152) 3 230 := ⟨by decide +kernel, rfl⟩
theorem d_Mod_goTo_230 : zd_i b_Mod_goTo 230 6 1 1 233 := ⟨by decide +kernel, by decide, rfl⟩
theorem d_Mod_goTo_233 : zd_b b_Mod_goTo 233 .goto 236 43 := ⟨(-190), by decide +kernel, by decide, rfl⟩
theorem d_Mod_goTo_236 : zd_l .iload_n .iload b_Mod_goTo 236 3 237 := Or.inl ⟨3, rfl, by decide +kernel, rfl⟩
theorem d_Mod_goTo_237 : zd b_Mod_goTo 237 .ireturn 1 238 := ⟨by decide +kernel, rfl⟩
theorem d_Mod_ends_0 : zd_l .aload_n .aload b_Mod_ends 0 0 1 := Or.inl ⟨0, rfl, by decide +kernel, rfl⟩
theorem d_Mod_ends_1 : zd_k b_Mod_ends "SameTuesdayModel" 1 60 3 := Or.inr (Or.inl ⟨60, by decide +kernel, by decide, rfl⟩)
theorem d_Mod_ends_3 : zd_l .iload_n .iload b_Mod_ends 3 1 4 := Or.inl ⟨1, rfl, by decide +kernel, rfl⟩
theorem d_Mod_ends_4 : zd b_Mod_ends 4 (.invokevirtual 172) 3 7 := ⟨by decide +kernel, rfl⟩
theorem d_Mod_ends_7 : zd b_Mod_ends 7 .ireturn 1 8 := ⟨by decide +kernel, rfl⟩
theorem d_Mod_layRow_0 : zd_l .aload_n .aload b_Mod_layRow 0 0 1 := Or.inl ⟨0, rfl, by decide +kernel, rfl⟩
theorem d_Mod_layRow_1 : zd_l .iload_n .iload b_Mod_layRow 1 1 2 := Or.inl ⟨1, rfl, by decide +kernel, rfl⟩
theorem d_Mod_layRow_2 : zd_l .iload_n .iload b_Mod_layRow 2 2 3 := Or.inl ⟨2, rfl, by decide +kernel, rfl⟩
theorem d_Mod_layRow_3 : zd_l .iload_n .iload b_Mod_layRow 3 3 4 := Or.inl ⟨3, rfl, by decide +kernel, rfl⟩
theorem d_Mod_layRow_4 : zd_k b_Mod_layRow "SameTuesdayModel" 4 2 5 := Or.inl ⟨2, by decide +kernel, by decide, rfl⟩
theorem d_Mod_layRow_5 : zd_l .iload_n .iload b_Mod_layRow 5 4 7 := Or.inr ⟨by decide +kernel, rfl⟩
theorem d_Mod_layRow_7 : zd b_Mod_layRow 7 .imul 1 8 := ⟨by decide +kernel, rfl⟩
theorem d_Mod_layRow_8 : zd b_Mod_layRow 8 (.invokevirtual 103) 3 11 := ⟨by decide +kernel, rfl⟩
theorem d_Mod_layRow_11 : zd_l .istore_n .istore b_Mod_layRow 11 5 13 := Or.inr ⟨by decide +kernel, rfl⟩
theorem d_Mod_layRow_13 : zd_l .iload_n .iload b_Mod_layRow 13 5 15 := Or.inr ⟨by decide +kernel, rfl⟩
theorem d_Mod_layRow_15 : zd_b b_Mod_layRow 15 (.ifCond .eq) 18 25 := ⟨10, by decide +kernel, by decide, rfl⟩
theorem d_Mod_layRow_18 : zd_l .aload_n .aload b_Mod_layRow 18 0 19 := Or.inl ⟨0, rfl, by decide +kernel, rfl⟩
theorem d_Mod_layRow_19 : zd_l .iload_n .iload b_Mod_layRow 19 5 21 := Or.inr ⟨by decide +kernel, rfl⟩
theorem d_Mod_layRow_21 : zd b_Mod_layRow 21 (.invokevirtual 107) 3 24 := ⟨by decide +kernel, rfl⟩
theorem d_Mod_layRow_24 : zd b_Mod_layRow 24 .ireturn 1 25 := ⟨by decide +kernel, rfl⟩
theorem d_Mod_layRow_25 : zd_l .aload_n .aload b_Mod_layRow 25 0 26 := Or.inl ⟨0, rfl, by decide +kernel, rfl⟩
theorem d_Mod_layRow_26 : zd b_Mod_layRow 26 (.getfield 87) 3 29 := ⟨by decide +kernel, rfl⟩
theorem d_Mod_layRow_29 : zd_b b_Mod_layRow 29 (.ifCond .ne) 32 35 := ⟨6, by decide +kernel, by decide, rfl⟩
theorem d_Mod_layRow_32 : zd_k b_Mod_layRow "SameTuesdayModel" 32 (-3) 34 := Or.inr (Or.inl ⟨(-3), by decide +kernel, by decide, rfl⟩)
theorem d_Mod_layRow_34 : zd b_Mod_layRow 34 .ireturn 1 35 := ⟨by decide +kernel, rfl⟩
theorem d_Mod_layRow_35 : zd_k b_Mod_layRow "SameTuesdayModel" 35 60 37 := Or.inr (Or.inl ⟨60, by decide +kernel, by decide, rfl⟩)
theorem d_Mod_layRow_37 : zd_l .iload_n .iload b_Mod_layRow 37 1 38 := Or.inl ⟨1, rfl, by decide +kernel, rfl⟩
theorem d_Mod_layRow_38 : zd b_Mod_layRow 38 .imul 1 39 := ⟨by decide +kernel, rfl⟩
theorem d_Mod_layRow_39 : zd_l .iload_n .iload b_Mod_layRow 39 3 40 := Or.inl ⟨3, rfl, by decide +kernel, rfl⟩
theorem d_Mod_layRow_40 : zd b_Mod_layRow 40 .iadd 1 41 := ⟨by decide +kernel, rfl⟩
theorem d_Mod_layRow_41 : zd_l .istore_n .istore b_Mod_layRow 41 6 43 := Or.inr ⟨by decide +kernel, rfl⟩
theorem d_Mod_layRow_43 : zd_k b_Mod_layRow "SameTuesdayModel" 43 0 44 := Or.inl ⟨0, by decide +kernel, by decide, rfl⟩
theorem d_Mod_layRow_44 : zd_l .istore_n .istore b_Mod_layRow 44 7 46 := Or.inr ⟨by decide +kernel, rfl⟩
theorem d_Mod_layRow_46 : zd_l .iload_n .iload b_Mod_layRow 46 7 48 := Or.inr ⟨by decide +kernel, rfl⟩
theorem d_Mod_layRow_48 : zd_l .iload_n .iload b_Mod_layRow 48 4 50 := Or.inr ⟨by decide +kernel, rfl⟩
theorem d_Mod_layRow_50 : zd_b b_Mod_layRow 50 (.if_icmp .ge) 53 146 := ⟨96, by decide +kernel, by decide, rfl⟩
theorem d_Mod_layRow_53 : zd_l .aload_n .aload b_Mod_layRow 53 0 54 := Or.inl ⟨0, rfl, by decide +kernel, rfl⟩
theorem d_Mod_layRow_54 : zd b_Mod_layRow 54 (.getfield 16) 3 57 := ⟨by decide +kernel, rfl⟩
theorem d_Mod_layRow_57 : zd_l .iload_n .iload b_Mod_layRow 57 6 59 := Or.inr ⟨by decide +kernel, rfl⟩
theorem d_Mod_layRow_59 : zd_k b_Mod_layRow "SameTuesdayModel" 59 2 60 := Or.inl ⟨2, by decide +kernel, by decide, rfl⟩
theorem d_Mod_layRow_60 : zd_l .iload_n .iload b_Mod_layRow 60 7 62 := Or.inr ⟨by decide +kernel, rfl⟩
theorem d_Mod_layRow_62 : zd b_Mod_layRow 62 .imul 1 63 := ⟨by decide +kernel, rfl⟩
theorem d_Mod_layRow_63 : zd b_Mod_layRow 63 .iadd 1 64 := ⟨by decide +kernel, rfl⟩
theorem d_Mod_layRow_64 : zd b_Mod_layRow 64 .iaload 1 65 := ⟨by decide +kernel, rfl⟩
theorem d_Mod_layRow_65 : zd_k b_Mod_layRow "SameTuesdayModel" 65 0 66 := Or.inl ⟨0, by decide +kernel, by decide, rfl⟩
theorem d_Mod_layRow_66 : zd_k b_Mod_layRow "SameTuesdayModel" 66 59 68 := Or.inr (Or.inl ⟨59, by decide +kernel, by decide, rfl⟩)
theorem d_Mod_layRow_68 : zd b_Mod_layRow 68 (.invokestatic 83) 3 71 := ⟨by decide +kernel, rfl⟩
theorem d_Mod_layRow_71 : zd_b b_Mod_layRow 71 (.ifCond .ne) 74 77 := ⟨6, by decide +kernel, by decide, rfl⟩
theorem d_Mod_layRow_74 : zd_k b_Mod_layRow "SameTuesdayModel" 74 (-2) 76 := Or.inr (Or.inl ⟨(-2), by decide +kernel, by decide, rfl⟩)
theorem d_Mod_layRow_76 : zd b_Mod_layRow 76 .ireturn 1 77 := ⟨by decide +kernel, rfl⟩
theorem d_Mod_layRow_77 : zd_l .aload_n .aload b_Mod_layRow 77 0 78 := Or.inl ⟨0, rfl, by decide +kernel, rfl⟩
theorem d_Mod_layRow_78 : zd_l .aload_n .aload b_Mod_layRow 78 0 79 := Or.inl ⟨0, rfl, by decide +kernel, rfl⟩
theorem d_Mod_layRow_79 : zd b_Mod_layRow 79 (.getfield 16) 3 82 := ⟨by decide +kernel, rfl⟩
theorem d_Mod_layRow_82 : zd_l .iload_n .iload b_Mod_layRow 82 6 84 := Or.inr ⟨by decide +kernel, rfl⟩
theorem d_Mod_layRow_84 : zd_k b_Mod_layRow "SameTuesdayModel" 84 2 85 := Or.inl ⟨2, by decide +kernel, by decide, rfl⟩
theorem d_Mod_layRow_85 : zd_l .iload_n .iload b_Mod_layRow 85 7 87 := Or.inr ⟨by decide +kernel, rfl⟩
theorem d_Mod_layRow_87 : zd b_Mod_layRow 87 .imul 1 88 := ⟨by decide +kernel, rfl⟩
theorem d_Mod_layRow_88 : zd b_Mod_layRow 88 .iadd 1 89 := ⟨by decide +kernel, rfl⟩
theorem d_Mod_layRow_89 : zd_k b_Mod_layRow "SameTuesdayModel" 89 1 90 := Or.inl ⟨1, by decide +kernel, by decide, rfl⟩
theorem d_Mod_layRow_90 : zd b_Mod_layRow 90 .iadd 1 91 := ⟨by decide +kernel, rfl⟩
theorem d_Mod_layRow_91 : zd b_Mod_layRow 91 .iaload 1 92 := ⟨by decide +kernel, rfl⟩
theorem d_Mod_layRow_92 : zd b_Mod_layRow 92 (.invokevirtual 143) 3 95 := ⟨by decide +kernel, rfl⟩
theorem d_Mod_layRow_95 : zd_b b_Mod_layRow 95 (.ifCond .ne) 98 100 := ⟨5, by decide +kernel, by decide, rfl⟩
theorem d_Mod_layRow_98 : zd_k b_Mod_layRow "SameTuesdayModel" 98 (-1) 99 := Or.inl ⟨(-1), by decide +kernel, by decide, rfl⟩
theorem d_Mod_layRow_99 : zd b_Mod_layRow 99 .ireturn 1 100 := ⟨by decide +kernel, rfl⟩
theorem d_Mod_layRow_100 : zd_l .aload_n .aload b_Mod_layRow 100 0 101 := Or.inl ⟨0, rfl, by decide +kernel, rfl⟩
theorem d_Mod_layRow_101 : zd b_Mod_layRow 101 (.getfield 49) 3 104 := ⟨by decide +kernel, rfl⟩
theorem d_Mod_layRow_104 : zd_l .iload_n .iload b_Mod_layRow 104 7 106 := Or.inr ⟨by decide +kernel, rfl⟩
theorem d_Mod_layRow_106 : zd_l .aload_n .aload b_Mod_layRow 106 0 107 := Or.inl ⟨0, rfl, by decide +kernel, rfl⟩
theorem d_Mod_layRow_107 : zd b_Mod_layRow 107 (.getfield 16) 3 110 := ⟨by decide +kernel, rfl⟩
theorem d_Mod_layRow_110 : zd_l .iload_n .iload b_Mod_layRow 110 6 112 := Or.inr ⟨by decide +kernel, rfl⟩
theorem d_Mod_layRow_112 : zd_k b_Mod_layRow "SameTuesdayModel" 112 2 113 := Or.inl ⟨2, by decide +kernel, by decide, rfl⟩
theorem d_Mod_layRow_113 : zd_l .iload_n .iload b_Mod_layRow 113 7 115 := Or.inr ⟨by decide +kernel, rfl⟩
theorem d_Mod_layRow_115 : zd b_Mod_layRow 115 .imul 1 116 := ⟨by decide +kernel, rfl⟩
theorem d_Mod_layRow_116 : zd b_Mod_layRow 116 .iadd 1 117 := ⟨by decide +kernel, rfl⟩
theorem d_Mod_layRow_117 : zd b_Mod_layRow 117 .iaload 1 118 := ⟨by decide +kernel, rfl⟩
theorem d_Mod_layRow_118 : zd b_Mod_layRow 118 .iastore 1 119 := ⟨by decide +kernel, rfl⟩
theorem d_Mod_layRow_119 : zd_l .aload_n .aload b_Mod_layRow 119 0 120 := Or.inl ⟨0, rfl, by decide +kernel, rfl⟩
theorem d_Mod_layRow_120 : zd b_Mod_layRow 120 (.getfield 52) 3 123 := ⟨by decide +kernel, rfl⟩
theorem d_Mod_layRow_123 : zd_l .iload_n .iload b_Mod_layRow 123 7 125 := Or.inr ⟨by decide +kernel, rfl⟩
theorem d_Mod_layRow_125 : zd_l .aload_n .aload b_Mod_layRow 125 0 126 := Or.inl ⟨0, rfl, by decide +kernel, rfl⟩
theorem d_Mod_layRow_126 : zd b_Mod_layRow 126 (.getfield 16) 3 129 := ⟨by decide +kernel, rfl⟩
theorem d_Mod_layRow_129 : zd_l .iload_n .iload b_Mod_layRow 129 6 131 := Or.inr ⟨by decide +kernel, rfl⟩
theorem d_Mod_layRow_131 : zd_k b_Mod_layRow "SameTuesdayModel" 131 2 132 := Or.inl ⟨2, by decide +kernel, by decide, rfl⟩
theorem d_Mod_layRow_132 : zd_l .iload_n .iload b_Mod_layRow 132 7 134 := Or.inr ⟨by decide +kernel, rfl⟩
theorem d_Mod_layRow_134 : zd b_Mod_layRow 134 .imul 1 135 := ⟨by decide +kernel, rfl⟩
theorem d_Mod_layRow_135 : zd b_Mod_layRow 135 .iadd 1 136 := ⟨by decide +kernel, rfl⟩
theorem d_Mod_layRow_136 : zd_k b_Mod_layRow "SameTuesdayModel" 136 1 137 := Or.inl ⟨1, by decide +kernel, by decide, rfl⟩
theorem d_Mod_layRow_137 : zd b_Mod_layRow 137 .iadd 1 138 := ⟨by decide +kernel, rfl⟩
theorem d_Mod_layRow_138 : zd b_Mod_layRow 138 .iaload 1 139 := ⟨by decide +kernel, rfl⟩
theorem d_Mod_layRow_139 : zd b_Mod_layRow 139 .iastore 1 140 := ⟨by decide +kernel, rfl⟩
theorem d_Mod_layRow_140 : zd_i b_Mod_layRow 140 7 1 1 143 := ⟨by decide +kernel, by decide, rfl⟩
theorem d_Mod_layRow_143 : zd_b b_Mod_layRow 143 .goto 146 46 := ⟨(-97), by decide +kernel, by decide, rfl⟩
theorem d_Mod_layRow_146 : zd_l .aload_n .aload b_Mod_layRow 146 0 147 := Or.inl ⟨0, rfl, by decide +kernel, rfl⟩
theorem d_Mod_layRow_147 : zd_l .iload_n .iload b_Mod_layRow 147 4 149 := Or.inr ⟨by decide +kernel, rfl⟩
theorem d_Mod_layRow_149 : zd b_Mod_layRow 149 (.putfield 149) 3 152 := ⟨by decide +kernel, rfl⟩
theorem d_Mod_layRow_152 : zd_k b_Mod_layRow "SameTuesdayModel" 152 0 153 := Or.inl ⟨0, by decide +kernel, by decide, rfl⟩
theorem d_Mod_layRow_153 : zd b_Mod_layRow 153 .ireturn 1 154 := ⟨by decide +kernel, rfl⟩
theorem d_Mod_arePairs_0 : zd_l .iload_n .iload b_Mod_arePairs 0 0 1 := Or.inl ⟨0, rfl, by decide +kernel, rfl⟩
theorem d_Mod_arePairs_1 : zd b_Mod_arePairs 1 (.invokestatic 100) 3 4 := ⟨by decide +kernel, rfl⟩
theorem d_Mod_arePairs_4 : zd_b b_Mod_arePairs 4 (.ifCond .eq) 7 21 := ⟨17, by decide +kernel, by decide, rfl⟩
theorem d_Mod_arePairs_7 : zd_l .iload_n .iload b_Mod_arePairs 7 1 8 := Or.inl ⟨1, rfl, by decide +kernel, rfl⟩
theorem d_Mod_arePairs_8 : zd_k b_Mod_arePairs "SameTuesdayModel" 8 0 9 := Or.inl ⟨0, by decide +kernel, by decide, rfl⟩
theorem d_Mod_arePairs_9 : zd_k b_Mod_arePairs "SameTuesdayModel" 9 20 11 := Or.inr (Or.inl ⟨20, by decide +kernel, by decide, rfl⟩)
theorem d_Mod_arePairs_11 : zd b_Mod_arePairs 11 (.invokestatic 83) 3 14 := ⟨by decide +kernel, rfl⟩
theorem d_Mod_arePairs_14 : zd_b b_Mod_arePairs 14 (.ifCond .eq) 17 21 := ⟨7, by decide +kernel, by decide, rfl⟩
theorem d_Mod_arePairs_17 : zd_k b_Mod_arePairs "SameTuesdayModel" 17 1 18 := Or.inl ⟨1, by decide +kernel, by decide, rfl⟩
theorem d_Mod_arePairs_18 : zd_b b_Mod_arePairs 18 .goto 21 22 := ⟨4, by decide +kernel, by decide, rfl⟩
theorem d_Mod_arePairs_21 : zd_k b_Mod_arePairs "SameTuesdayModel" 21 0 22 := Or.inl ⟨0, by decide +kernel, by decide, rfl⟩
theorem d_Mod_arePairs_22 : zd b_Mod_arePairs 22 .ireturn 1 23 := ⟨by decide +kernel, rfl⟩
theorem d_Mod_live_0 : zd_l .aload_n .aload b_Mod_live 0 0 1 := Or.inl ⟨0, rfl, by decide +kernel, rfl⟩
theorem d_Mod_live_1 : zd_k b_Mod_live "SameTuesdayModel" 1 0 2 := Or.inl ⟨0, by decide +kernel, by decide, rfl⟩
theorem d_Mod_live_2 : zd b_Mod_live 2 (.putfield 78) 3 5 := ⟨by decide +kernel, rfl⟩
theorem d_Mod_live_5 : zd_l .iload_n .iload b_Mod_live 5 1 6 := Or.inl ⟨1, rfl, by decide +kernel, rfl⟩
theorem d_Mod_live_6 : zd b_Mod_live 6 (.invokestatic 96) 3 9 := ⟨by decide +kernel, rfl⟩
theorem d_Mod_live_9 : zd_b b_Mod_live 9 (.ifCond .ne) 12 14 := ⟨5, by decide +kernel, by decide, rfl⟩
theorem d_Mod_live_12 : zd_k b_Mod_live "SameTuesdayModel" 12 (-1) 13 := Or.inl ⟨(-1), by decide +kernel, by decide, rfl⟩
theorem d_Mod_live_13 : zd b_Mod_live 13 .ireturn 1 14 := ⟨by decide +kernel, rfl⟩
theorem d_Mod_live_14 : zd_l .iload_n .iload b_Mod_live 14 2 15 := Or.inl ⟨2, rfl, by decide +kernel, rfl⟩
theorem d_Mod_live_15 : zd_l .iload_n .iload b_Mod_live 15 4 17 := Or.inr ⟨by decide +kernel, rfl⟩
theorem d_Mod_live_17 : zd b_Mod_live 17 (.invokestatic 175) 3 20 := ⟨by decide +kernel, rfl⟩
theorem d_Mod_live_20 : zd_b b_Mod_live 20 (.ifCond .eq) 23 33 := ⟨13, by decide +kernel, by decide, rfl⟩
theorem d_Mod_live_23 : zd_l .iload_n .iload b_Mod_live 23 5 25 := Or.inr ⟨by decide +kernel, rfl⟩
theorem d_Mod_live_25 : zd_k b_Mod_live "SameTuesdayModel" 25 0 26 := Or.inl ⟨0, by decide +kernel, by decide, rfl⟩
theorem d_Mod_live_26 : zd_k b_Mod_live "SameTuesdayModel" 26 1 27 := Or.inl ⟨1, by decide +kernel, by decide, rfl⟩
theorem d_Mod_live_27 : zd b_Mod_live 27 (.invokestatic 83) 3 30 := ⟨by decide +kernel, rfl⟩
theorem d_Mod_live_30 : zd_b b_Mod_live 30 (.ifCond .ne) 33 36 := ⟨6, by decide +kernel, by decide, rfl⟩
theorem d_Mod_live_33 : zd_k b_Mod_live "SameTuesdayModel" 33 (-2) 35 := Or.inr (Or.inl ⟨(-2), by decide +kernel, by decide, rfl⟩)
theorem d_Mod_live_35 : zd b_Mod_live 35 .ireturn 1 36 := ⟨by decide +kernel, rfl⟩
theorem d_Mod_live_36 : zd_l .aload_n .aload b_Mod_live 36 0 37 := Or.inl ⟨0, rfl, by decide +kernel, rfl⟩
theorem d_Mod_live_37 : zd_l .iload_n .iload b_Mod_live 37 1 38 := Or.inl ⟨1, rfl, by decide +kernel, rfl⟩
theorem d_Mod_live_38 : zd_l .iload_n .iload b_Mod_live 38 2 39 := Or.inl ⟨2, rfl, by decide +kernel, rfl⟩
theorem d_Mod_live_39 : zd_l .iload_n .iload b_Mod_live 39 3 40 := Or.inl ⟨3, rfl, by decide +kernel, rfl⟩
theorem d_Mod_live_40 : zd_l .iload_n .iload b_Mod_live 40 4 42 := Or.inr ⟨by decide +kernel, rfl⟩
theorem d_Mod_live_42 : zd b_Mod_live 42 (.invokevirtual 178) 3 45 := ⟨by decide +kernel, rfl⟩
theorem d_Mod_live_45 : zd_l .istore_n .istore b_Mod_live 45 6 47 := Or.inr ⟨by decide +kernel, rfl⟩
theorem d_Mod_live_47 : zd_l .iload_n .iload b_Mod_live 47 6 49 := Or.inr ⟨by decide +kernel, rfl⟩
theorem d_Mod_live_49 : zd_b b_Mod_live 49 (.ifCond .eq) 52 55 := ⟨6, by decide +kernel, by decide, rfl⟩
theorem d_Mod_live_52 : zd_l .iload_n .iload b_Mod_live 52 6 54 := Or.inr ⟨by decide +kernel, rfl⟩
theorem d_Mod_live_54 : zd b_Mod_live 54 .ireturn 1 55 := ⟨by decide +kernel, rfl⟩
theorem d_Mod_live_55 : zd_l .aload_n .aload b_Mod_live 55 0 56 := Or.inl ⟨0, rfl, by decide +kernel, rfl⟩
theorem d_Mod_live_56 : zd_k b_Mod_live "SameTuesdayModel" 56 0 57 := Or.inl ⟨0, by decide +kernel, by decide, rfl⟩
theorem d_Mod_live_57 : zd b_Mod_live 57 (.invokevirtual 181) 3 60 := ⟨by decide +kernel, rfl⟩
theorem d_Mod_live_60 : zd_l .istore_n .istore b_Mod_live 60 7 62 := Or.inr ⟨by decide +kernel, rfl⟩
theorem d_Mod_live_62 : zd_l .iload_n .iload b_Mod_live 62 5 64 := Or.inr ⟨by decide +kernel, rfl⟩
theorem d_Mod_live_64 : zd_k b_Mod_live "SameTuesdayModel" 64 1 65 := Or.inl ⟨1, by decide +kernel, by decide, rfl⟩
theorem d_Mod_live_65 : zd_b b_Mod_live 65 (.if_icmp .ne) 68 71 := ⟨6, by decide +kernel, by decide, rfl⟩
theorem d_Mod_live_68 : zd_l .iload_n .iload b_Mod_live 68 7 70 := Or.inr ⟨by decide +kernel, rfl⟩
theorem d_Mod_live_70 : zd b_Mod_live 70 .ireturn 1 71 := ⟨by decide +kernel, rfl⟩
theorem d_Mod_live_71 : zd_k b_Mod_live "SameTuesdayModel" 71 0 72 := Or.inl ⟨0, by decide +kernel, by decide, rfl⟩
theorem d_Mod_live_72 : zd_l .istore_n .istore b_Mod_live 72 8 74 := Or.inr ⟨by decide +kernel, rfl⟩
theorem d_Mod_live_74 : zd_l .iload_n .iload b_Mod_live 74 8 76 := Or.inr ⟨by decide +kernel, rfl⟩
theorem d_Mod_live_76 : zd_l .aload_n .aload b_Mod_live 76 0 77 := Or.inl ⟨0, rfl, by decide +kernel, rfl⟩
theorem d_Mod_live_77 : zd b_Mod_live 77 (.getfield 149) 3 80 := ⟨by decide +kernel, rfl⟩
theorem d_Mod_live_80 : zd_b b_Mod_live 80 (.if_icmp .ge) 83 102 := ⟨22, by decide +kernel, by decide, rfl⟩
theorem d_Mod_live_83 : zd_l .aload_n .aload b_Mod_live 83 0 84 := Or.inl ⟨0, rfl, by decide +kernel, rfl⟩
theorem d_Mod_live_84 : zd b_Mod_live 84 (.getfield 55) 3 87 := ⟨by decide +kernel, rfl⟩
theorem d_Mod_live_87 : zd_l .iload_n .iload b_Mod_live 87 8 89 := Or.inr ⟨by decide +kernel, rfl⟩
theorem d_Mod_live_89 : zd b_Mod_live 89 .baload 1 90 := ⟨by decide +kernel, rfl⟩
theorem d_Mod_live_90 : zd_b b_Mod_live 90 (.ifCond .eq) 93 96 := ⟨6, by decide +kernel, by decide, rfl⟩
theorem d_Mod_live_93 : zd_l .iload_n .iload b_Mod_live 93 8 95 := Or.inr ⟨by decide +kernel, rfl⟩
theorem d_Mod_live_95 : zd b_Mod_live 95 .ireturn 1 96 := ⟨by decide +kernel, rfl⟩
theorem d_Mod_live_96 : zd_i b_Mod_live 96 8 1 1 99 := ⟨by decide +kernel, by decide, rfl⟩
theorem d_Mod_live_99 : zd_b b_Mod_live 99 .goto 102 74 := ⟨(-25), by decide +kernel, by decide, rfl⟩
theorem d_Mod_live_102 : zd_k b_Mod_live "SameTuesdayModel" 102 (-9) 104 := Or.inr (Or.inl ⟨(-9), by decide +kernel, by decide, rfl⟩)
theorem d_Mod_live_104 : zd b_Mod_live 104 .ireturn 1 105 := ⟨by decide +kernel, rfl⟩
theorem d_Mod_at_0 : zd_l .aload_n .aload b_Mod_at 0 0 1 := Or.inl ⟨0, rfl, by decide +kernel, rfl⟩
theorem d_Mod_at_1 : zd_k b_Mod_at "SameTuesdayModel" 1 0 2 := Or.inl ⟨0, by decide +kernel, by decide, rfl⟩
theorem d_Mod_at_2 : zd b_Mod_at 2 (.putfield 78) 3 5 := ⟨by decide +kernel, rfl⟩
theorem d_Mod_at_5 : zd_l .iload_n .iload b_Mod_at 5 2 6 := Or.inl ⟨2, rfl, by decide +kernel, rfl⟩
theorem d_Mod_at_6 : zd b_Mod_at 6 (.invokestatic 96) 3 9 := ⟨by decide +kernel, rfl⟩
theorem d_Mod_at_9 : zd_b b_Mod_at 9 (.ifCond .ne) 12 14 := ⟨5, by decide +kernel, by decide, rfl⟩
theorem d_Mod_at_12 : zd_k b_Mod_at "SameTuesdayModel" 12 (-1) 13 := Or.inl ⟨(-1), by decide +kernel, by decide, rfl⟩
theorem d_Mod_at_13 : zd b_Mod_at 13 .ireturn 1 14 := ⟨by decide +kernel, rfl⟩
theorem d_Mod_at_14 : zd_l .iload_n .iload b_Mod_at 14 3 15 := Or.inl ⟨3, rfl, by decide +kernel, rfl⟩
theorem d_Mod_at_15 : zd_l .iload_n .iload b_Mod_at 15 5 17 := Or.inr ⟨by decide +kernel, rfl⟩
theorem d_Mod_at_17 : zd b_Mod_at 17 (.invokestatic 175) 3 20 := ⟨by decide +kernel, rfl⟩
theorem d_Mod_at_20 : zd_b b_Mod_at 20 (.ifCond .eq) 23 33 := ⟨13, by decide +kernel, by decide, rfl⟩
theorem d_Mod_at_23 : zd_l .iload_n .iload b_Mod_at 23 1 24 := Or.inl ⟨1, rfl, by decide +kernel, rfl⟩
theorem d_Mod_at_24 : zd_k b_Mod_at "SameTuesdayModel" 24 0 25 := Or.inl ⟨0, by decide +kernel, by decide, rfl⟩
theorem d_Mod_at_25 : zd_k b_Mod_at "SameTuesdayModel" 25 59 27 := Or.inr (Or.inl ⟨59, by decide +kernel, by decide, rfl⟩)
theorem d_Mod_at_27 : zd b_Mod_at 27 (.invokestatic 83) 3 30 := ⟨by decide +kernel, rfl⟩
theorem d_Mod_at_30 : zd_b b_Mod_at 30 (.ifCond .ne) 33 36 := ⟨6, by decide +kernel, by decide, rfl⟩
theorem d_Mod_at_33 : zd_k b_Mod_at "SameTuesdayModel" 33 (-2) 35 := Or.inr (Or.inl ⟨(-2), by decide +kernel, by decide, rfl⟩)
theorem d_Mod_at_35 : zd b_Mod_at 35 .ireturn 1 36 := ⟨by decide +kernel, rfl⟩
theorem d_Mod_at_36 : zd_l .aload_n .aload b_Mod_at 36 0 37 := Or.inl ⟨0, rfl, by decide +kernel, rfl⟩
theorem d_Mod_at_37 : zd_l .iload_n .iload b_Mod_at 37 2 38 := Or.inl ⟨2, rfl, by decide +kernel, rfl⟩
theorem d_Mod_at_38 : zd_l .iload_n .iload b_Mod_at 38 3 39 := Or.inl ⟨3, rfl, by decide +kernel, rfl⟩
theorem d_Mod_at_39 : zd_l .iload_n .iload b_Mod_at 39 4 41 := Or.inr ⟨by decide +kernel, rfl⟩
theorem d_Mod_at_41 : zd_l .iload_n .iload b_Mod_at 41 5 43 := Or.inr ⟨by decide +kernel, rfl⟩
theorem d_Mod_at_43 : zd b_Mod_at 43 (.invokevirtual 178) 3 46 := ⟨by decide +kernel, rfl⟩
theorem d_Mod_at_46 : zd_l .istore_n .istore b_Mod_at 46 6 48 := Or.inr ⟨by decide +kernel, rfl⟩
theorem d_Mod_at_48 : zd_l .iload_n .iload b_Mod_at 48 6 50 := Or.inr ⟨by decide +kernel, rfl⟩
theorem d_Mod_at_50 : zd_b b_Mod_at 50 (.ifCond .ne) 53 62 := ⟨12, by decide +kernel, by decide, rfl⟩
theorem d_Mod_at_53 : zd_l .aload_n .aload b_Mod_at 53 0 54 := Or.inl ⟨0, rfl, by decide +kernel, rfl⟩
theorem d_Mod_at_54 : zd_l .iload_n .iload b_Mod_at 54 1 55 := Or.inl ⟨1, rfl, by decide +kernel, rfl⟩
theorem d_Mod_at_55 : zd_k b_Mod_at "SameTuesdayModel" 55 0 56 := Or.inl ⟨0, by decide +kernel, by decide, rfl⟩
theorem d_Mod_at_56 : zd b_Mod_at 56 (.invokevirtual 172) 3 59 := ⟨by decide +kernel, rfl⟩
theorem d_Mod_at_59 : zd_b b_Mod_at 59 .goto 62 64 := ⟨5, by decide +kernel, by decide, rfl⟩
theorem d_Mod_at_62 : zd_l .iload_n .iload b_Mod_at 62 6 64 := Or.inr ⟨by decide +kernel, rfl⟩
theorem d_Mod_at_64 : zd b_Mod_at 64 .ireturn 1 65 := ⟨by decide +kernel, rfl⟩
theorem d_Mod_hangs_0 : zd_l .aload_n .aload b_Mod_hangs 0 0 1 := Or.inl ⟨0, rfl, by decide +kernel, rfl⟩
theorem d_Mod_hangs_1 : zd_k b_Mod_hangs "SameTuesdayModel" 1 0 2 := Or.inl ⟨0, by decide +kernel, by decide, rfl⟩
theorem d_Mod_hangs_2 : zd b_Mod_hangs 2 (.putfield 78) 3 5 := ⟨by decide +kernel, rfl⟩
theorem d_Mod_hangs_5 : zd_l .iload_n .iload b_Mod_hangs 5 1 6 := Or.inl ⟨1, rfl, by decide +kernel, rfl⟩
theorem d_Mod_hangs_6 : zd b_Mod_hangs 6 (.invokestatic 96) 3 9 := ⟨by decide +kernel, rfl⟩
theorem d_Mod_hangs_9 : zd_b b_Mod_hangs 9 (.ifCond .ne) 12 14 := ⟨5, by decide +kernel, by decide, rfl⟩
theorem d_Mod_hangs_12 : zd_k b_Mod_hangs "SameTuesdayModel" 12 (-1) 13 := Or.inl ⟨(-1), by decide +kernel, by decide, rfl⟩
theorem d_Mod_hangs_13 : zd b_Mod_hangs 13 .ireturn 1 14 := ⟨by decide +kernel, rfl⟩
theorem d_Mod_hangs_14 : zd_l .iload_n .iload b_Mod_hangs 14 2 15 := Or.inl ⟨2, rfl, by decide +kernel, rfl⟩
theorem d_Mod_hangs_15 : zd_l .iload_n .iload b_Mod_hangs 15 4 17 := Or.inr ⟨by decide +kernel, rfl⟩
theorem d_Mod_hangs_17 : zd b_Mod_hangs 17 (.invokestatic 175) 3 20 := ⟨by decide +kernel, rfl⟩
theorem d_Mod_hangs_20 : zd_b b_Mod_hangs 20 (.ifCond .ne) 23 26 := ⟨6, by decide +kernel, by decide, rfl⟩
theorem d_Mod_hangs_23 : zd_k b_Mod_hangs "SameTuesdayModel" 23 (-2) 25 := Or.inr (Or.inl ⟨(-2), by decide +kernel, by decide, rfl⟩)
theorem d_Mod_hangs_25 : zd b_Mod_hangs 25 .ireturn 1 26 := ⟨by decide +kernel, rfl⟩
theorem d_Mod_hangs_26 : zd_l .aload_n .aload b_Mod_hangs 26 0 27 := Or.inl ⟨0, rfl, by decide +kernel, rfl⟩
theorem d_Mod_hangs_27 : zd_l .iload_n .iload b_Mod_hangs 27 1 28 := Or.inl ⟨1, rfl, by decide +kernel, rfl⟩
theorem d_Mod_hangs_28 : zd_l .iload_n .iload b_Mod_hangs 28 2 29 := Or.inl ⟨2, rfl, by decide +kernel, rfl⟩
theorem d_Mod_hangs_29 : zd_l .iload_n .iload b_Mod_hangs 29 3 30 := Or.inl ⟨3, rfl, by decide +kernel, rfl⟩
theorem d_Mod_hangs_30 : zd_l .iload_n .iload b_Mod_hangs 30 4 32 := Or.inr ⟨by decide +kernel, rfl⟩
theorem d_Mod_hangs_32 : zd b_Mod_hangs 32 (.invokevirtual 178) 3 35 := ⟨by decide +kernel, rfl⟩
theorem d_Mod_hangs_35 : zd_l .istore_n .istore b_Mod_hangs 35 5 37 := Or.inr ⟨by decide +kernel, rfl⟩
theorem d_Mod_hangs_37 : zd_l .iload_n .iload b_Mod_hangs 37 5 39 := Or.inr ⟨by decide +kernel, rfl⟩
theorem d_Mod_hangs_39 : zd_b b_Mod_hangs 39 (.ifCond .eq) 42 45 := ⟨6, by decide +kernel, by decide, rfl⟩
theorem d_Mod_hangs_42 : zd_l .iload_n .iload b_Mod_hangs 42 5 44 := Or.inr ⟨by decide +kernel, rfl⟩
theorem d_Mod_hangs_44 : zd b_Mod_hangs 44 .ireturn 1 45 := ⟨by decide +kernel, rfl⟩
theorem d_Mod_hangs_45 : zd_l .aload_n .aload b_Mod_hangs 45 0 46 := Or.inl ⟨0, rfl, by decide +kernel, rfl⟩
theorem d_Mod_hangs_46 : zd_k b_Mod_hangs "SameTuesdayModel" 46 0 47 := Or.inl ⟨0, by decide +kernel, by decide, rfl⟩
theorem d_Mod_hangs_47 : zd b_Mod_hangs 47 (.invokevirtual 181) 3 50 := ⟨by decide +kernel, rfl⟩
theorem d_Mod_hangs_50 : zd_l .istore_n .istore b_Mod_hangs 50 6 52 := Or.inr ⟨by decide +kernel, rfl⟩
theorem d_Mod_hangs_52 : zd_k b_Mod_hangs "SameTuesdayModel" 52 0 53 := Or.inl ⟨0, by decide +kernel, by decide, rfl⟩
theorem d_Mod_hangs_53 : zd_l .istore_n .istore b_Mod_hangs 53 7 55 := Or.inr ⟨by decide +kernel, rfl⟩
theorem d_Mod_hangs_55 : zd_k b_Mod_hangs "SameTuesdayModel" 55 0 56 := Or.inl ⟨0, by decide +kernel, by decide, rfl⟩
theorem d_Mod_hangs_56 : zd_l .istore_n .istore b_Mod_hangs 56 8 58 := Or.inr ⟨by decide +kernel, rfl⟩
theorem d_Mod_hangs_58 : zd_l .iload_n .iload b_Mod_hangs 58 8 60 := Or.inr ⟨by decide +kernel, rfl⟩
theorem d_Mod_hangs_60 : zd_l .aload_n .aload b_Mod_hangs 60 0 61 := Or.inl ⟨0, rfl, by decide +kernel, rfl⟩
theorem d_Mod_hangs_61 : zd b_Mod_hangs 61 (.getfield 87) 3 64 := ⟨by decide +kernel, rfl⟩
theorem d_Mod_hangs_64 : zd_b b_Mod_hangs 64 (.if_icmp .ge) 67 99 := ⟨35, by decide +kernel, by decide, rfl⟩
theorem d_Mod_hangs_67 : zd_l .iload_n .iload b_Mod_hangs 67 7 69 := Or.inr ⟨by decide +kernel, rfl⟩
theorem d_Mod_hangs_69 : zd_l .aload_n .aload b_Mod_hangs 69 0 70 := Or.inl ⟨0, rfl, by decide +kernel, rfl⟩
theorem d_Mod_hangs_70 : zd_k b_Mod_hangs "SameTuesdayModel" 70 1 71 := Or.inl ⟨1, by decide +kernel, by decide, rfl⟩
theorem d_Mod_hangs_71 : zd_l .iload_n .iload b_Mod_hangs 71 8 73 := Or.inr ⟨by decide +kernel, rfl⟩
theorem d_Mod_hangs_73 : zd b_Mod_hangs 73 .ishl 1 74 := ⟨by decide +kernel, rfl⟩
theorem d_Mod_hangs_74 : zd b_Mod_hangs 74 (.invokevirtual 181) 3 77 := ⟨by decide +kernel, rfl⟩
theorem d_Mod_hangs_77 : zd_l .iload_n .iload b_Mod_hangs 77 6 79 := Or.inr ⟨by decide +kernel, rfl⟩
theorem d_Mod_hangs_79 : zd_b b_Mod_hangs 79 (.if_icmp .ne) 82 86 := ⟨7, by decide +kernel, by decide, rfl⟩
theorem d_Mod_hangs_82 : zd_k b_Mod_hangs "SameTuesdayModel" 82 0 83 := Or.inl ⟨0, by decide +kernel, by decide, rfl⟩
theorem d_Mod_hangs_83 : zd_b b_Mod_hangs 83 .goto 86 90 := ⟨7, by decide +kernel, by decide, rfl⟩
theorem d_Mod_hangs_86 : zd_k b_Mod_hangs "SameTuesdayModel" 86 1 87 := Or.inl ⟨1, by decide +kernel, by decide, rfl⟩
theorem d_Mod_hangs_87 : zd_l .iload_n .iload b_Mod_hangs 87 8 89 := Or.inr ⟨by decide +kernel, rfl⟩
theorem d_Mod_hangs_89 : zd b_Mod_hangs 89 .ishl 1 90 := ⟨by decide +kernel, rfl⟩
theorem d_Mod_hangs_90 : zd b_Mod_hangs 90 .ior 1 91 := ⟨by decide +kernel, rfl⟩
theorem d_Mod_hangs_91 : zd_l .istore_n .istore b_Mod_hangs 91 7 93 := Or.inr ⟨by decide +kernel, rfl⟩
theorem d_Mod_hangs_93 : zd_i b_Mod_hangs 93 8 1 1 96 := ⟨by decide +kernel, by decide, rfl⟩
theorem d_Mod_hangs_96 : zd_b b_Mod_hangs 96 .goto 99 58 := ⟨(-38), by decide +kernel, by decide, rfl⟩
theorem d_Mod_hangs_99 : zd_l .iload_n .iload b_Mod_hangs 99 7 101 := Or.inr ⟨by decide +kernel, rfl⟩
theorem d_Mod_hangs_101 : zd b_Mod_hangs 101 .ireturn 1 102 := ⟨by decide +kernel, rfl⟩
theorem d_Mod_place_0 : zd_k b_Mod_place "SameTuesdayModel" 0 10 2 := Or.inr (Or.inl ⟨10, by decide +kernel, by decide, rfl⟩)
theorem d_Mod_place_2 : zd_l .iload_n .iload b_Mod_place 2 0 3 := Or.inl ⟨0, rfl, by decide +kernel, rfl⟩
theorem d_Mod_place_3 : zd b_Mod_place 3 .imul 1 4 := ⟨by decide +kernel, rfl⟩
theorem d_Mod_place_4 : zd_l .iload_n .iload b_Mod_place 4 1 5 := Or.inl ⟨1, rfl, by decide +kernel, rfl⟩
theorem d_Mod_place_5 : zd_k b_Mod_place "SameTuesdayModel" 5 10 7 := Or.inr (Or.inl ⟨10, by decide +kernel, by decide, rfl⟩)
theorem d_Mod_place_7 : zd b_Mod_place 7 .irem 1 8 := ⟨by decide +kernel, rfl⟩
theorem d_Mod_place_8 : zd b_Mod_place 8 .iadd 1 9 := ⟨by decide +kernel, rfl⟩
theorem d_Mod_place_9 : zd_k b_Mod_place "SameTuesdayModel" 9 64 11 := Or.inr (Or.inl ⟨64, by decide +kernel, by decide, rfl⟩)
theorem d_Mod_place_11 : zd b_Mod_place 11 .imul 1 12 := ⟨by decide +kernel, rfl⟩
theorem d_Mod_place_12 : zd_l .iload_n .iload b_Mod_place 12 2 13 := Or.inl ⟨2, rfl, by decide +kernel, rfl⟩
theorem d_Mod_place_13 : zd b_Mod_place 13 .iadd 1 14 := ⟨by decide +kernel, rfl⟩
theorem d_Mod_place_14 : zd b_Mod_place 14 .ireturn 1 15 := ⟨by decide +kernel, rfl⟩
theorem d_Mod_happenIdle_0 : zd_k b_Mod_happenIdle "SameTuesdayModel" 0 0 1 := Or.inl ⟨0, by decide +kernel, by decide, rfl⟩
theorem d_Mod_happenIdle_1 : zd_l .istore_n .istore b_Mod_happenIdle 1 2 2 := Or.inl ⟨2, rfl, by decide +kernel, rfl⟩
theorem d_Mod_happenIdle_2 : zd_l .iload_n .iload b_Mod_happenIdle 2 2 3 := Or.inl ⟨2, rfl, by decide +kernel, rfl⟩
theorem d_Mod_happenIdle_3 : zd_k b_Mod_happenIdle "SameTuesdayModel" 3 64 5 := Or.inr (Or.inl ⟨64, by decide +kernel, by decide, rfl⟩)
theorem d_Mod_happenIdle_5 : zd_b b_Mod_happenIdle 5 (.if_icmp .ge) 8 21 := ⟨16, by decide +kernel, by decide, rfl⟩
theorem d_Mod_happenIdle_8 : zd_l .aload_n .aload b_Mod_happenIdle 8 0 9 := Or.inl ⟨0, rfl, by decide +kernel, rfl⟩
theorem d_Mod_happenIdle_9 : zd b_Mod_happenIdle 9 (.getfield 69) 3 12 := ⟨by decide +kernel, rfl⟩
theorem d_Mod_happenIdle_12 : zd_l .iload_n .iload b_Mod_happenIdle 12 2 13 := Or.inl ⟨2, rfl, by decide +kernel, rfl⟩
theorem d_Mod_happenIdle_13 : zd_k b_Mod_happenIdle "SameTuesdayModel" 13 0 14 := Or.inl ⟨0, by decide +kernel, by decide, rfl⟩
theorem d_Mod_happenIdle_14 : zd b_Mod_happenIdle 14 .bastore 1 15 := ⟨by decide +kernel, rfl⟩
theorem d_Mod_happenIdle_15 : zd_i b_Mod_happenIdle 15 2 1 1 18 := ⟨by decide +kernel, by decide, rfl⟩
theorem d_Mod_happenIdle_18 : zd_b b_Mod_happenIdle 18 .goto 21 2 := ⟨(-16), by decide +kernel, by decide, rfl⟩
theorem d_Mod_happenIdle_21 : zd_k b_Mod_happenIdle "SameTuesdayModel" 21 0 22 := Or.inl ⟨0, by decide +kernel, by decide, rfl⟩
theorem d_Mod_happenIdle_22 : zd_l .istore_n .istore b_Mod_happenIdle 22 2 23 := Or.inl ⟨2, rfl, by decide +kernel, rfl⟩
theorem d_Mod_happenIdle_23 : zd_l .iload_n .iload b_Mod_happenIdle 23 2 24 := Or.inl ⟨2, rfl, by decide +kernel, rfl⟩
theorem d_Mod_happenIdle_24 : zd_k b_Mod_happenIdle "SameTuesdayModel" 24 64 26 := Or.inr (Or.inl ⟨64, by decide +kernel, by decide, rfl⟩)
theorem d_Mod_happenIdle_26 : zd_b b_Mod_happenIdle 26 (.if_icmp .ge) 29 57 := ⟨31, by decide +kernel, by decide, rfl⟩
theorem d_Mod_happenIdle_29 : zd_l .aload_n .aload b_Mod_happenIdle 29 0 30 := Or.inl ⟨0, rfl, by decide +kernel, rfl⟩
theorem d_Mod_happenIdle_30 : zd b_Mod_happenIdle 30 (.getfield 63) 3 33 := ⟨by decide +kernel, rfl⟩
theorem d_Mod_happenIdle_33 : zd_l .iload_n .iload b_Mod_happenIdle 33 2 34 := Or.inl ⟨2, rfl, by decide +kernel, rfl⟩
theorem d_Mod_happenIdle_34 : zd b_Mod_happenIdle 34 .baload 1 35 := ⟨by decide +kernel, rfl⟩
theorem d_Mod_happenIdle_35 : zd_b b_Mod_happenIdle 35 (.ifCond .eq) 38 51 := ⟨16, by decide +kernel, by decide, rfl⟩
theorem d_Mod_happenIdle_38 : zd_l .aload_n .aload b_Mod_happenIdle 38 0 39 := Or.inl ⟨0, rfl, by decide +kernel, rfl⟩
theorem d_Mod_happenIdle_39 : zd b_Mod_happenIdle 39 (.getfield 69) 3 42 := ⟨by decide +kernel, rfl⟩
theorem d_Mod_happenIdle_42 : zd_l .aload_n .aload b_Mod_happenIdle 42 0 43 := Or.inl ⟨0, rfl, by decide +kernel, rfl⟩
theorem d_Mod_happenIdle_43 : zd_l .iload_n .iload b_Mod_happenIdle 43 2 44 := Or.inl ⟨2, rfl, by decide +kernel, rfl⟩
theorem d_Mod_happenIdle_44 : zd_l .iload_n .iload b_Mod_happenIdle 44 1 45 := Or.inl ⟨1, rfl, by decide +kernel, rfl⟩
theorem d_Mod_happenIdle_45 : zd_k b_Mod_happenIdle "SameTuesdayModel" 45 0 46 := Or.inl ⟨0, by decide +kernel, by decide, rfl⟩
theorem d_Mod_happenIdle_46 : zd b_Mod_happenIdle 46 (.invokevirtual 156) 3 49 := ⟨by decide +kernel, rfl⟩
theorem d_Mod_happenIdle_49 : zd_k b_Mod_happenIdle "SameTuesdayModel" 49 1 50 := Or.inl ⟨1, by decide +kernel, by decide, rfl⟩
theorem d_Mod_happenIdle_50 : zd b_Mod_happenIdle 50 .bastore 1 51 := ⟨by decide +kernel, rfl⟩
theorem d_Mod_happenIdle_51 : zd_i b_Mod_happenIdle 51 2 1 1 54 := ⟨by decide +kernel, by decide, rfl⟩
theorem d_Mod_happenIdle_54 : zd_b b_Mod_happenIdle 54 .goto 57 23 := ⟨(-31), by decide +kernel, by decide, rfl⟩
theorem d_Mod_happenIdle_57 : zd_k b_Mod_happenIdle "SameTuesdayModel" 57 0 58 := Or.inl ⟨0, by decide +kernel, by decide, rfl⟩
theorem d_Mod_happenIdle_58 : zd_l .istore_n .istore b_Mod_happenIdle 58 2 59 := Or.inl ⟨2, rfl, by decide +kernel, rfl⟩
theorem d_Mod_happenIdle_59 : zd_l .iload_n .iload b_Mod_happenIdle 59 2 60 := Or.inl ⟨2, rfl, by decide +kernel, rfl⟩
theorem d_Mod_happenIdle_60 : zd_k b_Mod_happenIdle "SameTuesdayModel" 60 64 62 := Or.inr (Or.inl ⟨64, by decide +kernel, by decide, rfl⟩)
theorem d_Mod_happenIdle_62 : zd_b b_Mod_happenIdle 62 (.if_icmp .ge) 65 83 := ⟨21, by decide +kernel, by decide, rfl⟩
theorem d_Mod_happenIdle_65 : zd_l .aload_n .aload b_Mod_happenIdle 65 0 66 := Or.inl ⟨0, rfl, by decide +kernel, rfl⟩
theorem d_Mod_happenIdle_66 : zd b_Mod_happenIdle 66 (.getfield 63) 3 69 := ⟨by decide +kernel, rfl⟩
theorem d_Mod_happenIdle_69 : zd_l .iload_n .iload b_Mod_happenIdle 69 2 70 := Or.inl ⟨2, rfl, by decide +kernel, rfl⟩
theorem d_Mod_happenIdle_70 : zd_l .aload_n .aload b_Mod_happenIdle 70 0 71 := Or.inl ⟨0, rfl, by decide +kernel, rfl⟩
theorem d_Mod_happenIdle_71 : zd b_Mod_happenIdle 71 (.getfield 69) 3 74 := ⟨by decide +kernel, rfl⟩
theorem d_Mod_happenIdle_74 : zd_l .iload_n .iload b_Mod_happenIdle 74 2 75 := Or.inl ⟨2, rfl, by decide +kernel, rfl⟩
theorem d_Mod_happenIdle_75 : zd b_Mod_happenIdle 75 .baload 1 76 := ⟨by decide +kernel, rfl⟩
theorem d_Mod_happenIdle_76 : zd b_Mod_happenIdle 76 .bastore 1 77 := ⟨by decide +kernel, rfl⟩
theorem d_Mod_happenIdle_77 : zd_i b_Mod_happenIdle 77 2 1 1 80 := ⟨by decide +kernel, by decide, rfl⟩
theorem d_Mod_happenIdle_80 : zd_b b_Mod_happenIdle 80 .goto 83 59 := ⟨(-21), by decide +kernel, by decide, rfl⟩
theorem d_Mod_happenIdle_83 : zd b_Mod_happenIdle 83 .return_ 1 84 := ⟨by decide +kernel, rfl⟩
theorem d_Mod_happenBusy_0 : zd_k b_Mod_happenBusy "SameTuesdayModel" 0 0 1 := Or.inl ⟨0, by decide +kernel, by decide, rfl⟩
theorem d_Mod_happenBusy_1 : zd_l .istore_n .istore b_Mod_happenBusy 1 3 2 := Or.inl ⟨3, rfl, by decide +kernel, rfl⟩
theorem d_Mod_happenBusy_2 : zd_l .iload_n .iload b_Mod_happenBusy 2 3 3 := Or.inl ⟨3, rfl, by decide +kernel, rfl⟩
theorem d_Mod_happenBusy_3 : zd_k b_Mod_happenBusy "SameTuesdayModel" 3 64 5 := Or.inr (Or.inl ⟨64, by decide +kernel, by decide, rfl⟩)
theorem d_Mod_happenBusy_5 : zd_b b_Mod_happenBusy 5 (.if_icmp .ge) 8 21 := ⟨16, by decide +kernel, by decide, rfl⟩
theorem d_Mod_happenBusy_8 : zd_l .aload_n .aload b_Mod_happenBusy 8 0 9 := Or.inl ⟨0, rfl, by decide +kernel, rfl⟩
theorem d_Mod_happenBusy_9 : zd b_Mod_happenBusy 9 (.getfield 69) 3 12 := ⟨by decide +kernel, rfl⟩
theorem d_Mod_happenBusy_12 : zd_l .iload_n .iload b_Mod_happenBusy 12 3 13 := Or.inl ⟨3, rfl, by decide +kernel, rfl⟩
theorem d_Mod_happenBusy_13 : zd_k b_Mod_happenBusy "SameTuesdayModel" 13 0 14 := Or.inl ⟨0, by decide +kernel, by decide, rfl⟩
theorem d_Mod_happenBusy_14 : zd b_Mod_happenBusy 14 .bastore 1 15 := ⟨by decide +kernel, rfl⟩
theorem d_Mod_happenBusy_15 : zd_i b_Mod_happenBusy 15 3 1 1 18 := ⟨by decide +kernel, by decide, rfl⟩
theorem d_Mod_happenBusy_18 : zd_b b_Mod_happenBusy 18 .goto 21 2 := ⟨(-16), by decide +kernel, by decide, rfl⟩
theorem d_Mod_happenBusy_21 : zd_k b_Mod_happenBusy "SameTuesdayModel" 21 0 22 := Or.inl ⟨0, by decide +kernel, by decide, rfl⟩
theorem d_Mod_happenBusy_22 : zd_l .istore_n .istore b_Mod_happenBusy 22 3 23 := Or.inl ⟨3, rfl, by decide +kernel, rfl⟩
theorem d_Mod_happenBusy_23 : zd_l .iload_n .iload b_Mod_happenBusy 23 3 24 := Or.inl ⟨3, rfl, by decide +kernel, rfl⟩
theorem d_Mod_happenBusy_24 : zd_k b_Mod_happenBusy "SameTuesdayModel" 24 64 26 := Or.inr (Or.inl ⟨64, by decide +kernel, by decide, rfl⟩)
theorem d_Mod_happenBusy_26 : zd_b b_Mod_happenBusy 26 (.if_icmp .ge) 29 62 := ⟨36, by decide +kernel, by decide, rfl⟩
theorem d_Mod_happenBusy_29 : zd_l .aload_n .aload b_Mod_happenBusy 29 0 30 := Or.inl ⟨0, rfl, by decide +kernel, rfl⟩
theorem d_Mod_happenBusy_30 : zd b_Mod_happenBusy 30 (.getfield 66) 3 33 := ⟨by decide +kernel, rfl⟩
theorem d_Mod_happenBusy_33 : zd_k b_Mod_happenBusy "SameTuesdayModel" 33 64 35 := Or.inr (Or.inl ⟨64, by decide +kernel, by decide, rfl⟩)
theorem d_Mod_happenBusy_35 : zd_l .iload_n .iload b_Mod_happenBusy 35 1 36 := Or.inl ⟨1, rfl, by decide +kernel, rfl⟩
theorem d_Mod_happenBusy_36 : zd b_Mod_happenBusy 36 .imul 1 37 := ⟨by decide +kernel, rfl⟩
theorem d_Mod_happenBusy_37 : zd_l .iload_n .iload b_Mod_happenBusy 37 3 38 := Or.inl ⟨3, rfl, by decide +kernel, rfl⟩
theorem d_Mod_happenBusy_38 : zd b_Mod_happenBusy 38 .iadd 1 39 := ⟨by decide +kernel, rfl⟩
theorem d_Mod_happenBusy_39 : zd b_Mod_happenBusy 39 .baload 1 40 := ⟨by decide +kernel, rfl⟩
theorem d_Mod_happenBusy_40 : zd_b b_Mod_happenBusy 40 (.ifCond .eq) 43 56 := ⟨16, by decide +kernel, by decide, rfl⟩
theorem d_Mod_happenBusy_43 : zd_l .aload_n .aload b_Mod_happenBusy 43 0 44 := Or.inl ⟨0, rfl, by decide +kernel, rfl⟩
theorem d_Mod_happenBusy_44 : zd b_Mod_happenBusy 44 (.getfield 69) 3 47 := ⟨by decide +kernel, rfl⟩
theorem d_Mod_happenBusy_47 : zd_l .aload_n .aload b_Mod_happenBusy 47 0 48 := Or.inl ⟨0, rfl, by decide +kernel, rfl⟩
theorem d_Mod_happenBusy_48 : zd_l .iload_n .iload b_Mod_happenBusy 48 3 49 := Or.inl ⟨3, rfl, by decide +kernel, rfl⟩
theorem d_Mod_happenBusy_49 : zd_l .iload_n .iload b_Mod_happenBusy 49 2 50 := Or.inl ⟨2, rfl, by decide +kernel, rfl⟩
theorem d_Mod_happenBusy_50 : zd_k b_Mod_happenBusy "SameTuesdayModel" 50 0 51 := Or.inl ⟨0, by decide +kernel, by decide, rfl⟩
theorem d_Mod_happenBusy_51 : zd b_Mod_happenBusy 51 (.invokevirtual 156) 3 54 := ⟨by decide +kernel, rfl⟩
theorem d_Mod_happenBusy_54 : zd_k b_Mod_happenBusy "SameTuesdayModel" 54 1 55 := Or.inl ⟨1, by decide +kernel, by decide, rfl⟩
theorem d_Mod_happenBusy_55 : zd b_Mod_happenBusy 55 .bastore 1 56 := ⟨by decide +kernel, rfl⟩
theorem d_Mod_happenBusy_56 : zd_i b_Mod_happenBusy 56 3 1 1 59 := ⟨by decide +kernel, by decide, rfl⟩
theorem d_Mod_happenBusy_59 : zd_b b_Mod_happenBusy 59 .goto 62 23 := ⟨(-36), by decide +kernel, by decide, rfl⟩
theorem d_Mod_happenBusy_62 : zd_k b_Mod_happenBusy "SameTuesdayModel" 62 0 63 := Or.inl ⟨0, by decide +kernel, by decide, rfl⟩
theorem d_Mod_happenBusy_63 : zd_l .istore_n .istore b_Mod_happenBusy 63 3 64 := Or.inl ⟨3, rfl, by decide +kernel, rfl⟩
theorem d_Mod_happenBusy_64 : zd_l .iload_n .iload b_Mod_happenBusy 64 3 65 := Or.inl ⟨3, rfl, by decide +kernel, rfl⟩
theorem d_Mod_happenBusy_65 : zd_k b_Mod_happenBusy "SameTuesdayModel" 65 64 67 := Or.inr (Or.inl ⟨64, by decide +kernel, by decide, rfl⟩)
theorem d_Mod_happenBusy_67 : zd_b b_Mod_happenBusy 67 (.if_icmp .ge) 70 93 := ⟨26, by decide +kernel, by decide, rfl⟩
theorem d_Mod_happenBusy_70 : zd_l .aload_n .aload b_Mod_happenBusy 70 0 71 := Or.inl ⟨0, rfl, by decide +kernel, rfl⟩
theorem d_Mod_happenBusy_71 : zd b_Mod_happenBusy 71 (.getfield 66) 3 74 := ⟨by decide +kernel, rfl⟩
theorem d_Mod_happenBusy_74 : zd_k b_Mod_happenBusy "SameTuesdayModel" 74 64 76 := Or.inr (Or.inl ⟨64, by decide +kernel, by decide, rfl⟩)
theorem d_Mod_happenBusy_76 : zd_l .iload_n .iload b_Mod_happenBusy 76 1 77 := Or.inl ⟨1, rfl, by decide +kernel, rfl⟩
theorem d_Mod_happenBusy_77 : zd b_Mod_happenBusy 77 .imul 1 78 := ⟨by decide +kernel, rfl⟩
theorem d_Mod_happenBusy_78 : zd_l .iload_n .iload b_Mod_happenBusy 78 3 79 := Or.inl ⟨3, rfl, by decide +kernel, rfl⟩
theorem d_Mod_happenBusy_79 : zd b_Mod_happenBusy 79 .iadd 1 80 := ⟨by decide +kernel, rfl⟩
theorem d_Mod_happenBusy_80 : zd_l .aload_n .aload b_Mod_happenBusy 80 0 81 := Or.inl ⟨0, rfl, by decide +kernel, rfl⟩
theorem d_Mod_happenBusy_81 : zd b_Mod_happenBusy 81 (.getfield 69) 3 84 := ⟨by decide +kernel, rfl⟩
theorem d_Mod_happenBusy_84 : zd_l .iload_n .iload b_Mod_happenBusy 84 3 85 := Or.inl ⟨3, rfl, by decide +kernel, rfl⟩
theorem d_Mod_happenBusy_85 : zd b_Mod_happenBusy 85 .baload 1 86 := ⟨by decide +kernel, rfl⟩
theorem d_Mod_happenBusy_86 : zd b_Mod_happenBusy 86 .bastore 1 87 := ⟨by decide +kernel, rfl⟩
theorem d_Mod_happenBusy_87 : zd_i b_Mod_happenBusy 87 3 1 1 90 := ⟨by decide +kernel, by decide, rfl⟩
theorem d_Mod_happenBusy_90 : zd_b b_Mod_happenBusy 90 .goto 93 64 := ⟨(-26), by decide +kernel, by decide, rfl⟩
theorem d_Mod_happenBusy_93 : zd b_Mod_happenBusy 93 .return_ 1 94 := ⟨by decide +kernel, rfl⟩
theorem d_Mod_endDeeds_0 : zd_k b_Mod_endDeeds "SameTuesdayModel" 0 0 1 := Or.inl ⟨0, by decide +kernel, by decide, rfl⟩
theorem d_Mod_endDeeds_1 : zd_l .istore_n .istore b_Mod_endDeeds 1 2 2 := Or.inl ⟨2, rfl, by decide +kernel, rfl⟩
theorem d_Mod_endDeeds_2 : zd_l .iload_n .iload b_Mod_endDeeds 2 2 3 := Or.inl ⟨2, rfl, by decide +kernel, rfl⟩
theorem d_Mod_endDeeds_3 : zd_l .aload_n .aload b_Mod_endDeeds 3 0 4 := Or.inl ⟨0, rfl, by decide +kernel, rfl⟩
theorem d_Mod_endDeeds_4 : zd b_Mod_endDeeds 4 (.getfield 90) 3 7 := ⟨by decide +kernel, rfl⟩
theorem d_Mod_endDeeds_7 : zd_b b_Mod_endDeeds 7 (.if_icmp .ge) 10 68 := ⟨61, by decide +kernel, by decide, rfl⟩
theorem d_Mod_endDeeds_10 : zd_k b_Mod_endDeeds "SameTuesdayModel" 10 0 11 := Or.inl ⟨0, by decide +kernel, by decide, rfl⟩
theorem d_Mod_endDeeds_11 : zd_l .istore_n .istore b_Mod_endDeeds 11 3 12 := Or.inl ⟨3, rfl, by decide +kernel, rfl⟩
theorem d_Mod_endDeeds_12 : zd_l .iload_n .iload b_Mod_endDeeds 12 3 13 := Or.inl ⟨3, rfl, by decide +kernel, rfl⟩
theorem d_Mod_endDeeds_13 : zd_k b_Mod_endDeeds "SameTuesdayModel" 13 64 15 := Or.inr (Or.inl ⟨64, by decide +kernel, by decide, rfl⟩)
theorem d_Mod_endDeeds_15 : zd_b b_Mod_endDeeds 15 (.if_icmp .ge) 18 62 := ⟨47, by decide +kernel, by decide, rfl⟩
theorem d_Mod_endDeeds_18 : zd_l .iload_n .iload b_Mod_endDeeds 18 2 19 := Or.inl ⟨2, rfl, by decide +kernel, rfl⟩
theorem d_Mod_endDeeds_19 : zd_l .iload_n .iload b_Mod_endDeeds 19 1 20 := Or.inl ⟨1, rfl, by decide +kernel, rfl⟩
theorem d_Mod_endDeeds_20 : zd_l .iload_n .iload b_Mod_endDeeds 20 3 21 := Or.inl ⟨3, rfl, by decide +kernel, rfl⟩
theorem d_Mod_endDeeds_21 : zd b_Mod_endDeeds 21 (.invokestatic 184) 3 24 := ⟨by decide +kernel, rfl⟩
theorem d_Mod_endDeeds_24 : zd_l .istore_n .istore b_Mod_endDeeds 24 4 26 := Or.inr ⟨by decide +kernel, rfl⟩
theorem d_Mod_endDeeds_26 : zd_l .aload_n .aload b_Mod_endDeeds 26 0 27 := Or.inl ⟨0, rfl, by decide +kernel, rfl⟩
theorem d_Mod_endDeeds_27 : zd b_Mod_endDeeds 27 (.getfield 66) 3 30 := ⟨by decide +kernel, rfl⟩
theorem d_Mod_endDeeds_30 : zd_l .iload_n .iload b_Mod_endDeeds 30 4 32 := Or.inr ⟨by decide +kernel, rfl⟩
theorem d_Mod_endDeeds_32 : zd b_Mod_endDeeds 32 .baload 1 33 := ⟨by decide +kernel, rfl⟩
theorem d_Mod_endDeeds_33 : zd_b b_Mod_endDeeds 33 (.ifCond .eq) 36 56 := ⟨23, by decide +kernel, by decide, rfl⟩
theorem d_Mod_endDeeds_36 : zd_l .aload_n .aload b_Mod_endDeeds 36 0 37 := Or.inl ⟨0, rfl, by decide +kernel, rfl⟩
theorem d_Mod_endDeeds_37 : zd b_Mod_endDeeds 37 (.getfield 63) 3 40 := ⟨by decide +kernel, rfl⟩
theorem d_Mod_endDeeds_40 : zd_l .aload_n .aload b_Mod_endDeeds 40 0 41 := Or.inl ⟨0, rfl, by decide +kernel, rfl⟩
theorem d_Mod_endDeeds_41 : zd_l .iload_n .iload b_Mod_endDeeds 41 3 42 := Or.inl ⟨3, rfl, by decide +kernel, rfl⟩
theorem d_Mod_endDeeds_42 : zd_l .iload_n .iload b_Mod_endDeeds 42 2 43 := Or.inl ⟨2, rfl, by decide +kernel, rfl⟩
theorem d_Mod_endDeeds_43 : zd b_Mod_endDeeds 43 (.invokevirtual 159) 3 46 := ⟨by decide +kernel, rfl⟩
theorem d_Mod_endDeeds_46 : zd_k b_Mod_endDeeds "SameTuesdayModel" 46 1 47 := Or.inl ⟨1, by decide +kernel, by decide, rfl⟩
theorem d_Mod_endDeeds_47 : zd b_Mod_endDeeds 47 .bastore 1 48 := ⟨by decide +kernel, rfl⟩
theorem d_Mod_endDeeds_48 : zd_l .aload_n .aload b_Mod_endDeeds 48 0 49 := Or.inl ⟨0, rfl, by decide +kernel, rfl⟩
theorem d_Mod_endDeeds_49 : zd b_Mod_endDeeds 49 (.getfield 66) 3 52 := ⟨by decide +kernel, rfl⟩
theorem d_Mod_endDeeds_52 : zd_l .iload_n .iload b_Mod_endDeeds 52 4 54 := Or.inr ⟨by decide +kernel, rfl⟩
theorem d_Mod_endDeeds_54 : zd_k b_Mod_endDeeds "SameTuesdayModel" 54 0 55 := Or.inl ⟨0, by decide +kernel, by decide, rfl⟩
theorem d_Mod_endDeeds_55 : zd b_Mod_endDeeds 55 .bastore 1 56 := ⟨by decide +kernel, rfl⟩
theorem d_Mod_endDeeds_56 : zd_i b_Mod_endDeeds 56 3 1 1 59 := ⟨by decide +kernel, by decide, rfl⟩
theorem d_Mod_endDeeds_59 : zd_b b_Mod_endDeeds 59 .goto 62 12 := ⟨(-47), by decide +kernel, by decide, rfl⟩
theorem d_Mod_endDeeds_62 : zd_i b_Mod_endDeeds 62 2 1 1 65 := ⟨by decide +kernel, by decide, rfl⟩
theorem d_Mod_endDeeds_65 : zd_b b_Mod_endDeeds 65 .goto 68 2 := ⟨(-63), by decide +kernel, by decide, rfl⟩
theorem d_Mod_endDeeds_68 : zd b_Mod_endDeeds 68 .return_ 1 69 := ⟨by decide +kernel, rfl⟩
theorem d_Mod_beginDeeds_0 : zd_k b_Mod_beginDeeds "SameTuesdayModel" 0 0 1 := Or.inl ⟨0, by decide +kernel, by decide, rfl⟩
theorem d_Mod_beginDeeds_1 : zd_l .istore_n .istore b_Mod_beginDeeds 1 2 2 := Or.inl ⟨2, rfl, by decide +kernel, rfl⟩
theorem d_Mod_beginDeeds_2 : zd_l .iload_n .iload b_Mod_beginDeeds 2 2 3 := Or.inl ⟨2, rfl, by decide +kernel, rfl⟩
theorem d_Mod_beginDeeds_3 : zd_l .aload_n .aload b_Mod_beginDeeds 3 0 4 := Or.inl ⟨0, rfl, by decide +kernel, rfl⟩
theorem d_Mod_beginDeeds_4 : zd b_Mod_beginDeeds 4 (.getfield 90) 3 7 := ⟨by decide +kernel, rfl⟩
theorem d_Mod_beginDeeds_7 : zd_b b_Mod_beginDeeds 7 (.if_icmp .ge) 10 68 := ⟨61, by decide +kernel, by decide, rfl⟩
theorem d_Mod_beginDeeds_10 : zd_k b_Mod_beginDeeds "SameTuesdayModel" 10 0 11 := Or.inl ⟨0, by decide +kernel, by decide, rfl⟩
theorem d_Mod_beginDeeds_11 : zd_l .istore_n .istore b_Mod_beginDeeds 11 3 12 := Or.inl ⟨3, rfl, by decide +kernel, rfl⟩
theorem d_Mod_beginDeeds_12 : zd_l .iload_n .iload b_Mod_beginDeeds 12 3 13 := Or.inl ⟨3, rfl, by decide +kernel, rfl⟩
theorem d_Mod_beginDeeds_13 : zd_k b_Mod_beginDeeds "SameTuesdayModel" 13 64 15 := Or.inr (Or.inl ⟨64, by decide +kernel, by decide, rfl⟩)
theorem d_Mod_beginDeeds_15 : zd_b b_Mod_beginDeeds 15 (.if_icmp .ge) 18 62 := ⟨47, by decide +kernel, by decide, rfl⟩
theorem d_Mod_beginDeeds_18 : zd_l .aload_n .aload b_Mod_beginDeeds 18 0 19 := Or.inl ⟨0, rfl, by decide +kernel, rfl⟩
theorem d_Mod_beginDeeds_19 : zd b_Mod_beginDeeds 19 (.getfield 63) 3 22 := ⟨by decide +kernel, rfl⟩
theorem d_Mod_beginDeeds_22 : zd_l .iload_n .iload b_Mod_beginDeeds 22 3 23 := Or.inl ⟨3, rfl, by decide +kernel, rfl⟩
theorem d_Mod_beginDeeds_23 : zd b_Mod_beginDeeds 23 .baload 1 24 := ⟨by decide +kernel, rfl⟩
theorem d_Mod_beginDeeds_24 : zd_b b_Mod_beginDeeds 24 (.ifCond .eq) 27 56 := ⟨32, by decide +kernel, by decide, rfl⟩
theorem d_Mod_beginDeeds_27 : zd_l .aload_n .aload b_Mod_beginDeeds 27 0 28 := Or.inl ⟨0, rfl, by decide +kernel, rfl⟩
theorem d_Mod_beginDeeds_28 : zd_l .iload_n .iload b_Mod_beginDeeds 28 3 29 := Or.inl ⟨3, rfl, by decide +kernel, rfl⟩
theorem d_Mod_beginDeeds_29 : zd_l .iload_n .iload b_Mod_beginDeeds 29 2 30 := Or.inl ⟨2, rfl, by decide +kernel, rfl⟩
theorem d_Mod_beginDeeds_30 : zd_l .iload_n .iload b_Mod_beginDeeds 30 1 31 := Or.inl ⟨1, rfl, by decide +kernel, rfl⟩
theorem d_Mod_beginDeeds_31 : zd b_Mod_beginDeeds 31 (.invokevirtual 169) 3 34 := ⟨by decide +kernel, rfl⟩
theorem d_Mod_beginDeeds_34 : zd_b b_Mod_beginDeeds 34 (.ifCond .eq) 37 56 := ⟨22, by decide +kernel, by decide, rfl⟩
theorem d_Mod_beginDeeds_37 : zd_l .aload_n .aload b_Mod_beginDeeds 37 0 38 := Or.inl ⟨0, rfl, by decide +kernel, rfl⟩
theorem d_Mod_beginDeeds_38 : zd b_Mod_beginDeeds 38 (.getfield 66) 3 41 := ⟨by decide +kernel, rfl⟩
theorem d_Mod_beginDeeds_41 : zd_l .iload_n .iload b_Mod_beginDeeds 41 2 42 := Or.inl ⟨2, rfl, by decide +kernel, rfl⟩
theorem d_Mod_beginDeeds_42 : zd_l .iload_n .iload b_Mod_beginDeeds 42 1 43 := Or.inl ⟨1, rfl, by decide +kernel, rfl⟩
theorem d_Mod_beginDeeds_43 : zd_l .aload_n .aload b_Mod_beginDeeds 43 0 44 := Or.inl ⟨0, rfl, by decide +kernel, rfl⟩
theorem d_Mod_beginDeeds_44 : zd b_Mod_beginDeeds 44 (.getfield 40) 3 47 := ⟨by decide +kernel, rfl⟩
theorem d_Mod_beginDeeds_47 : zd_l .iload_n .iload b_Mod_beginDeeds 47 2 48 := Or.inl ⟨2, rfl, by decide +kernel, rfl⟩
theorem d_Mod_beginDeeds_48 : zd b_Mod_beginDeeds 48 .iaload 1 49 := ⟨by decide +kernel, rfl⟩
theorem d_Mod_beginDeeds_49 : zd b_Mod_beginDeeds 49 .iadd 1 50 := ⟨by decide +kernel, rfl⟩
theorem d_Mod_beginDeeds_50 : zd_l .iload_n .iload b_Mod_beginDeeds 50 3 51 := Or.inl ⟨3, rfl, by decide +kernel, rfl⟩
theorem d_Mod_beginDeeds_51 : zd b_Mod_beginDeeds 51 (.invokestatic 184) 3 54 := ⟨by decide +kernel, rfl⟩
theorem d_Mod_beginDeeds_54 : zd_k b_Mod_beginDeeds "SameTuesdayModel" 54 1 55 := Or.inl ⟨1, by decide +kernel, by decide, rfl⟩
theorem d_Mod_beginDeeds_55 : zd b_Mod_beginDeeds 55 .bastore 1 56 := ⟨by decide +kernel, rfl⟩
theorem d_Mod_beginDeeds_56 : zd_i b_Mod_beginDeeds 56 3 1 1 59 := ⟨by decide +kernel, by decide, rfl⟩
theorem d_Mod_beginDeeds_59 : zd_b b_Mod_beginDeeds 59 .goto 62 12 := ⟨(-47), by decide +kernel, by decide, rfl⟩
theorem d_Mod_beginDeeds_62 : zd_i b_Mod_beginDeeds 62 2 1 1 65 := ⟨by decide +kernel, by decide, rfl⟩
theorem d_Mod_beginDeeds_65 : zd_b b_Mod_beginDeeds 65 .goto 68 2 := ⟨(-63), by decide +kernel, by decide, rfl⟩
theorem d_Mod_beginDeeds_68 : zd b_Mod_beginDeeds 68 .return_ 1 69 := ⟨by decide +kernel, rfl⟩
theorem d_Mod_beginStates_0 : zd_k b_Mod_beginStates "SameTuesdayModel" 0 0 1 := Or.inl ⟨0, by decide +kernel, by decide, rfl⟩
theorem d_Mod_beginStates_1 : zd_l .istore_n .istore b_Mod_beginStates 1 1 2 := Or.inl ⟨1, rfl, by decide +kernel, rfl⟩
theorem d_Mod_beginStates_2 : zd_l .iload_n .iload b_Mod_beginStates 2 1 3 := Or.inl ⟨1, rfl, by decide +kernel, rfl⟩
theorem d_Mod_beginStates_3 : zd_k b_Mod_beginStates "SameTuesdayModel" 3 64 5 := Or.inr (Or.inl ⟨64, by decide +kernel, by decide, rfl⟩)
theorem d_Mod_beginStates_5 : zd_b b_Mod_beginStates 5 (.if_icmp .ge) 8 29 := ⟨24, by decide +kernel, by decide, rfl⟩
theorem d_Mod_beginStates_8 : zd_l .aload_n .aload b_Mod_beginStates 8 0 9 := Or.inl ⟨0, rfl, by decide +kernel, rfl⟩
theorem d_Mod_beginStates_9 : zd b_Mod_beginStates 9 (.getfield 63) 3 12 := ⟨by decide +kernel, rfl⟩
theorem d_Mod_beginStates_12 : zd_l .iload_n .iload b_Mod_beginStates 12 1 13 := Or.inl ⟨1, rfl, by decide +kernel, rfl⟩
theorem d_Mod_beginStates_13 : zd_l .iload_n .iload b_Mod_beginStates 13 1 14 := Or.inl ⟨1, rfl, by decide +kernel, rfl⟩
theorem d_Mod_beginStates_14 : zd_b b_Mod_beginStates 14 (.ifCond .ne) 17 21 := ⟨7, by decide +kernel, by decide, rfl⟩
theorem d_Mod_beginStates_17 : zd_k b_Mod_beginStates "SameTuesdayModel" 17 1 18 := Or.inl ⟨1, by decide +kernel, by decide, rfl⟩
theorem d_Mod_beginStates_18 : zd_b b_Mod_beginStates 18 .goto 21 22 := ⟨4, by decide +kernel, by decide, rfl⟩
theorem d_Mod_beginStates_21 : zd_k b_Mod_beginStates "SameTuesdayModel" 21 0 22 := Or.inl ⟨0, by decide +kernel, by decide, rfl⟩
theorem d_Mod_beginStates_22 : zd b_Mod_beginStates 22 .bastore 1 23 := ⟨by decide +kernel, rfl⟩
theorem d_Mod_beginStates_23 : zd_i b_Mod_beginStates 23 1 1 1 26 := ⟨by decide +kernel, by decide, rfl⟩
theorem d_Mod_beginStates_26 : zd_b b_Mod_beginStates 26 .goto 29 2 := ⟨(-24), by decide +kernel, by decide, rfl⟩
theorem d_Mod_beginStates_29 : zd_k b_Mod_beginStates "SameTuesdayModel" 29 0 30 := Or.inl ⟨0, by decide +kernel, by decide, rfl⟩
theorem d_Mod_beginStates_30 : zd_l .istore_n .istore b_Mod_beginStates 30 1 31 := Or.inl ⟨1, rfl, by decide +kernel, rfl⟩
theorem d_Mod_beginStates_31 : zd_l .iload_n .iload b_Mod_beginStates 31 1 32 := Or.inl ⟨1, rfl, by decide +kernel, rfl⟩
theorem d_Mod_beginStates_32 : zd_k b_Mod_beginStates "SameTuesdayModel" 32 3200 35 := Or.inr (Or.inr (Or.inl ⟨3200, by decide +kernel, by decide, rfl⟩))
theorem d_Mod_beginStates_35 : zd_b b_Mod_beginStates 35 (.if_icmp .ge) 38 51 := ⟨16, by decide +kernel, by decide, rfl⟩
theorem d_Mod_beginStates_38 : zd_l .aload_n .aload b_Mod_beginStates 38 0 39 := Or.inl ⟨0, rfl, by decide +kernel, rfl⟩
theorem d_Mod_beginStates_39 : zd b_Mod_beginStates 39 (.getfield 66) 3 42 := ⟨by decide +kernel, rfl⟩
theorem d_Mod_beginStates_42 : zd_l .iload_n .iload b_Mod_beginStates 42 1 43 := Or.inl ⟨1, rfl, by decide +kernel, rfl⟩
theorem d_Mod_beginStates_43 : zd_k b_Mod_beginStates "SameTuesdayModel" 43 0 44 := Or.inl ⟨0, by decide +kernel, by decide, rfl⟩
theorem d_Mod_beginStates_44 : zd b_Mod_beginStates 44 .bastore 1 45 := ⟨by decide +kernel, rfl⟩
theorem d_Mod_beginStates_45 : zd_i b_Mod_beginStates 45 1 1 1 48 := ⟨by decide +kernel, by decide, rfl⟩
theorem d_Mod_beginStates_48 : zd_b b_Mod_beginStates 48 .goto 51 31 := ⟨(-17), by decide +kernel, by decide, rfl⟩
theorem d_Mod_beginStates_51 : zd b_Mod_beginStates 51 .return_ 1 52 := ⟨by decide +kernel, rfl⟩
theorem d_Mod_goMinute_0 : zd_l .aload_n .aload b_Mod_goMinute 0 0 1 := Or.inl ⟨0, rfl, by decide +kernel, rfl⟩
theorem d_Mod_goMinute_1 : zd_l .iload_n .iload b_Mod_goMinute 1 1 2 := Or.inl ⟨1, rfl, by decide +kernel, rfl⟩
theorem d_Mod_goMinute_2 : zd b_Mod_goMinute 2 (.invokevirtual 187) 3 5 := ⟨by decide +kernel, rfl⟩
theorem d_Mod_goMinute_5 : zd_k b_Mod_goMinute "SameTuesdayModel" 5 0 6 := Or.inl ⟨0, by decide +kernel, by decide, rfl⟩
theorem d_Mod_goMinute_6 : zd_l .istore_n .istore b_Mod_goMinute 6 2 7 := Or.inl ⟨2, rfl, by decide +kernel, rfl⟩
theorem d_Mod_goMinute_7 : zd_l .iload_n .iload b_Mod_goMinute 7 2 8 := Or.inl ⟨2, rfl, by decide +kernel, rfl⟩
theorem d_Mod_goMinute_8 : zd_k b_Mod_goMinute "SameTuesdayModel" 8 10 10 := Or.inr (Or.inl ⟨10, by decide +kernel, by decide, rfl⟩)
theorem d_Mod_goMinute_10 : zd_l .aload_n .aload b_Mod_goMinute 10 0 11 := Or.inl ⟨0, rfl, by decide +kernel, rfl⟩
theorem d_Mod_goMinute_11 : zd b_Mod_goMinute 11 (.getfield 90) 3 14 := ⟨by decide +kernel, rfl⟩
theorem d_Mod_goMinute_14 : zd b_Mod_goMinute 14 .imul 1 15 := ⟨by decide +kernel, rfl⟩
theorem d_Mod_goMinute_15 : zd_b b_Mod_goMinute 15 (.if_icmp .ge) 18 30 := ⟨15, by decide +kernel, by decide, rfl⟩
theorem d_Mod_goMinute_18 : zd_l .aload_n .aload b_Mod_goMinute 18 0 19 := Or.inl ⟨0, rfl, by decide +kernel, rfl⟩
theorem d_Mod_goMinute_19 : zd_l .iload_n .iload b_Mod_goMinute 19 2 20 := Or.inl ⟨2, rfl, by decide +kernel, rfl⟩
theorem d_Mod_goMinute_20 : zd_l .iload_n .iload b_Mod_goMinute 20 1 21 := Or.inl ⟨1, rfl, by decide +kernel, rfl⟩
theorem d_Mod_goMinute_21 : zd b_Mod_goMinute 21 (.invokevirtual 191) 3 24 := ⟨by decide +kernel, rfl⟩
theorem d_Mod_goMinute_24 : zd_i b_Mod_goMinute 24 2 1 1 27 := ⟨by decide +kernel, by decide, rfl⟩
theorem d_Mod_goMinute_27 : zd_b b_Mod_goMinute 27 .goto 30 7 := ⟨(-20), by decide +kernel, by decide, rfl⟩
theorem d_Mod_goMinute_30 : zd_l .aload_n .aload b_Mod_goMinute 30 0 31 := Or.inl ⟨0, rfl, by decide +kernel, rfl⟩
theorem d_Mod_goMinute_31 : zd_l .iload_n .iload b_Mod_goMinute 31 1 32 := Or.inl ⟨1, rfl, by decide +kernel, rfl⟩
theorem d_Mod_goMinute_32 : zd b_Mod_goMinute 32 (.invokevirtual 195) 3 35 := ⟨by decide +kernel, rfl⟩
theorem d_Mod_goMinute_35 : zd_l .aload_n .aload b_Mod_goMinute 35 0 36 := Or.inl ⟨0, rfl, by decide +kernel, rfl⟩
theorem d_Mod_goMinute_36 : zd_l .iload_n .iload b_Mod_goMinute 36 1 37 := Or.inl ⟨1, rfl, by decide +kernel, rfl⟩
theorem d_Mod_goMinute_37 : zd b_Mod_goMinute 37 (.invokevirtual 198) 3 40 := ⟨by decide +kernel, rfl⟩
theorem d_Mod_goMinute_40 : zd b_Mod_goMinute 40 .return_ 1 41 := ⟨by decide +kernel, rfl⟩
theorem d_Mod_layCanBe_0 : zd_k b_Mod_layCanBe "SameTuesdayModel" 0 0 1 := Or.inl ⟨0, by decide +kernel, by decide, rfl⟩
theorem d_Mod_layCanBe_1 : zd_l .istore_n .istore b_Mod_layCanBe 1 1 2 := Or.inl ⟨1, rfl, by decide +kernel, rfl⟩
theorem d_Mod_layCanBe_2 : zd_l .iload_n .iload b_Mod_layCanBe 2 1 3 := Or.inl ⟨1, rfl, by decide +kernel, rfl⟩
theorem d_Mod_layCanBe_3 : zd_k b_Mod_layCanBe "SameTuesdayModel" 3 64 5 := Or.inr (Or.inl ⟨64, by decide +kernel, by decide, rfl⟩)
theorem d_Mod_layCanBe_5 : zd_b b_Mod_layCanBe 5 (.if_icmp .ge) 8 65 := ⟨60, by decide +kernel, by decide, rfl⟩
theorem d_Mod_layCanBe_8 : zd_l .aload_n .aload b_Mod_layCanBe 8 0 9 := Or.inl ⟨0, rfl, by decide +kernel, rfl⟩
theorem d_Mod_layCanBe_9 : zd b_Mod_layCanBe 9 (.getfield 72) 3 12 := ⟨by decide +kernel, rfl⟩
theorem d_Mod_layCanBe_12 : zd_l .iload_n .iload b_Mod_layCanBe 12 1 13 := Or.inl ⟨1, rfl, by decide +kernel, rfl⟩
theorem d_Mod_layCanBe_13 : zd_l .aload_n .aload b_Mod_layCanBe 13 0 14 := Or.inl ⟨0, rfl, by decide +kernel, rfl⟩
theorem d_Mod_layCanBe_14 : zd b_Mod_layCanBe 14 (.getfield 63) 3 17 := ⟨by decide +kernel, rfl⟩
theorem d_Mod_layCanBe_17 : zd_l .iload_n .iload b_Mod_layCanBe 17 1 18 := Or.inl ⟨1, rfl, by decide +kernel, rfl⟩
theorem d_Mod_layCanBe_18 : zd b_Mod_layCanBe 18 .baload 1 19 := ⟨by decide +kernel, rfl⟩
theorem d_Mod_layCanBe_19 : zd b_Mod_layCanBe 19 .bastore 1 20 := ⟨by decide +kernel, rfl⟩
theorem d_Mod_layCanBe_20 : zd_k b_Mod_layCanBe "SameTuesdayModel" 20 0 21 := Or.inl ⟨0, by decide +kernel, by decide, rfl⟩
theorem d_Mod_layCanBe_21 : zd_l .istore_n .istore b_Mod_layCanBe 21 2 22 := Or.inl ⟨2, rfl, by decide +kernel, rfl⟩
theorem d_Mod_layCanBe_22 : zd_l .iload_n .iload b_Mod_layCanBe 22 2 23 := Or.inl ⟨2, rfl, by decide +kernel, rfl⟩
theorem d_Mod_layCanBe_23 : zd_k b_Mod_layCanBe "SameTuesdayModel" 23 10 25 := Or.inr (Or.inl ⟨10, by decide +kernel, by decide, rfl⟩)
theorem d_Mod_layCanBe_25 : zd_l .aload_n .aload b_Mod_layCanBe 25 0 26 := Or.inl ⟨0, rfl, by decide +kernel, rfl⟩
theorem d_Mod_layCanBe_26 : zd b_Mod_layCanBe 26 (.getfield 90) 3 29 := ⟨by decide +kernel, rfl⟩
theorem d_Mod_layCanBe_29 : zd b_Mod_layCanBe 29 .imul 1 30 := ⟨by decide +kernel, rfl⟩
theorem d_Mod_layCanBe_30 : zd_b b_Mod_layCanBe 30 (.if_icmp .ge) 33 59 := ⟨29, by decide +kernel, by decide, rfl⟩
theorem d_Mod_layCanBe_33 : zd_l .aload_n .aload b_Mod_layCanBe 33 0 34 := Or.inl ⟨0, rfl, by decide +kernel, rfl⟩
theorem d_Mod_layCanBe_34 : zd b_Mod_layCanBe 34 (.getfield 72) 3 37 := ⟨by decide +kernel, rfl⟩
theorem d_Mod_layCanBe_37 : zd_l .iload_n .iload b_Mod_layCanBe 37 1 38 := Or.inl ⟨1, rfl, by decide +kernel, rfl⟩
theorem d_Mod_layCanBe_38 : zd b_Mod_layCanBe 38 .dup2 1 39 := ⟨by decide +kernel, rfl⟩
theorem d_Mod_layCanBe_39 : zd b_Mod_layCanBe 39 .baload 1 40 := ⟨by decide +kernel, rfl⟩
theorem d_Mod_layCanBe_40 : zd_l .aload_n .aload b_Mod_layCanBe 40 0 41 := Or.inl ⟨0, rfl, by decide +kernel, rfl⟩
theorem d_Mod_layCanBe_41 : zd b_Mod_layCanBe 41 (.getfield 66) 3 44 := ⟨by decide +kernel, rfl⟩
theorem d_Mod_layCanBe_44 : zd_k b_Mod_layCanBe "SameTuesdayModel" 44 64 46 := Or.inr (Or.inl ⟨64, by decide +kernel, by decide, rfl⟩)
theorem d_Mod_layCanBe_46 : zd_l .iload_n .iload b_Mod_layCanBe 46 2 47 := Or.inl ⟨2, rfl, by decide +kernel, rfl⟩
theorem d_Mod_layCanBe_47 : zd b_Mod_layCanBe 47 .imul 1 48 := ⟨by decide +kernel, rfl⟩
theorem d_Mod_layCanBe_48 : zd_l .iload_n .iload b_Mod_layCanBe 48 1 49 := Or.inl ⟨1, rfl, by decide +kernel, rfl⟩
theorem d_Mod_layCanBe_49 : zd b_Mod_layCanBe 49 .iadd 1 50 := ⟨by decide +kernel, rfl⟩
theorem d_Mod_layCanBe_50 : zd b_Mod_layCanBe 50 .baload 1 51 := ⟨by decide +kernel, rfl⟩
theorem d_Mod_layCanBe_51 : zd b_Mod_layCanBe 51 .ior 1 52 := ⟨by decide +kernel, rfl⟩
theorem d_Mod_layCanBe_52 : zd b_Mod_layCanBe 52 .bastore 1 53 := ⟨by decide +kernel, rfl⟩
theorem d_Mod_layCanBe_53 : zd_i b_Mod_layCanBe 53 2 1 1 56 := ⟨by decide +kernel, by decide, rfl⟩
theorem d_Mod_layCanBe_56 : zd_b b_Mod_layCanBe 56 .goto 59 22 := ⟨(-34), by decide +kernel, by decide, rfl⟩
theorem d_Mod_layCanBe_59 : zd_i b_Mod_layCanBe 59 1 1 1 62 := ⟨by decide +kernel, by decide, rfl⟩
theorem d_Mod_layCanBe_62 : zd_b b_Mod_layCanBe 62 .goto 65 2 := ⟨(-60), by decide +kernel, by decide, rfl⟩
theorem d_Mod_layCanBe_65 : zd b_Mod_layCanBe 65 .return_ 1 66 := ⟨by decide +kernel, rfl⟩
theorem d_Mod_goStates_0 : zd_l .aload_n .aload b_Mod_goStates 0 0 1 := Or.inl ⟨0, rfl, by decide +kernel, rfl⟩
theorem d_Mod_goStates_1 : zd b_Mod_goStates 1 (.invokevirtual 201) 3 4 := ⟨by decide +kernel, rfl⟩
theorem d_Mod_goStates_4 : zd_k b_Mod_goStates "SameTuesdayModel" 4 0 5 := Or.inl ⟨0, by decide +kernel, by decide, rfl⟩
theorem d_Mod_goStates_5 : zd_l .istore_n .istore b_Mod_goStates 5 2 6 := Or.inl ⟨2, rfl, by decide +kernel, rfl⟩
theorem d_Mod_goStates_6 : zd_l .iload_n .iload b_Mod_goStates 6 2 7 := Or.inl ⟨2, rfl, by decide +kernel, rfl⟩
theorem d_Mod_goStates_7 : zd_l .aload_n .aload b_Mod_goStates 7 0 8 := Or.inl ⟨0, rfl, by decide +kernel, rfl⟩
theorem d_Mod_goStates_8 : zd b_Mod_goStates 8 (.getfield 120) 3 11 := ⟨by decide +kernel, rfl⟩
theorem d_Mod_goStates_11 : zd_b b_Mod_goStates 11 (.if_icmp .ge) 14 30 := ⟨19, by decide +kernel, by decide, rfl⟩
theorem d_Mod_goStates_14 : zd_l .iload_n .iload b_Mod_goStates 14 2 15 := Or.inl ⟨2, rfl, by decide +kernel, rfl⟩
theorem d_Mod_goStates_15 : zd_l .iload_n .iload b_Mod_goStates 15 1 16 := Or.inl ⟨1, rfl, by decide +kernel, rfl⟩
theorem d_Mod_goStates_16 : zd_b b_Mod_goStates 16 (.if_icmp .gt) 19 30 := ⟨14, by decide +kernel, by decide, rfl⟩
theorem d_Mod_goStates_19 : zd_l .aload_n .aload b_Mod_goStates 19 0 20 := Or.inl ⟨0, rfl, by decide +kernel, rfl⟩
theorem d_Mod_goStates_20 : zd_l .iload_n .iload b_Mod_goStates 20 2 21 := Or.inl ⟨2, rfl, by decide +kernel, rfl⟩
theorem d_Mod_goStates_21 : zd b_Mod_goStates 21 (.invokevirtual 204) 3 24 := ⟨by decide +kernel, rfl⟩
theorem d_Mod_goStates_24 : zd_i b_Mod_goStates 24 2 1 1 27 := ⟨by decide +kernel, by decide, rfl⟩
theorem d_Mod_goStates_27 : zd_b b_Mod_goStates 27 .goto 30 6 := ⟨(-21), by decide +kernel, by decide, rfl⟩
theorem d_Mod_goStates_30 : zd_l .aload_n .aload b_Mod_goStates 30 0 31 := Or.inl ⟨0, rfl, by decide +kernel, rfl⟩
theorem d_Mod_goStates_31 : zd b_Mod_goStates 31 (.invokevirtual 207) 3 34 := ⟨by decide +kernel, rfl⟩
theorem d_Mod_goStates_34 : zd b_Mod_goStates 34 .return_ 1 35 := ⟨by decide +kernel, rfl⟩
theorem d_Mod_isSet_0 : zd_l .iload_n .iload b_Mod_isSet 0 0 1 := Or.inl ⟨0, rfl, by decide +kernel, rfl⟩
theorem d_Mod_isSet_1 : zd_k b_Mod_isSet "SameTuesdayModel" 1 0 2 := Or.inl ⟨0, by decide +kernel, by decide, rfl⟩
theorem d_Mod_isSet_2 : zd_k b_Mod_isSet "SameTuesdayModel" 2 63 4 := Or.inr (Or.inl ⟨63, by decide +kernel, by decide, rfl⟩)
theorem d_Mod_isSet_4 : zd b_Mod_isSet 4 (.invokestatic 83) 3 7 := ⟨by decide +kernel, rfl⟩
theorem d_Mod_isSet_7 : zd b_Mod_isSet 7 .ireturn 1 8 := ⟨by decide +kernel, rfl⟩
theorem d_Mod_can_0 : zd_l .iload_n .iload b_Mod_can 0 1 1 := Or.inl ⟨1, rfl, by decide +kernel, rfl⟩
theorem d_Mod_can_1 : zd_k b_Mod_can "SameTuesdayModel" 1 0 2 := Or.inl ⟨0, by decide +kernel, by decide, rfl⟩
theorem d_Mod_can_2 : zd_k b_Mod_can "SameTuesdayModel" 2 59 4 := Or.inr (Or.inl ⟨59, by decide +kernel, by decide, rfl⟩)
theorem d_Mod_can_4 : zd b_Mod_can 4 (.invokestatic 83) 3 7 := ⟨by decide +kernel, rfl⟩
theorem d_Mod_can_7 : zd_b b_Mod_can 7 (.ifCond .eq) 10 17 := ⟨10, by decide +kernel, by decide, rfl⟩
theorem d_Mod_can_10 : zd_l .iload_n .iload b_Mod_can 10 2 11 := Or.inl ⟨2, rfl, by decide +kernel, rfl⟩
theorem d_Mod_can_11 : zd b_Mod_can 11 (.invokestatic 210) 3 14 := ⟨by decide +kernel, rfl⟩
theorem d_Mod_can_14 : zd_b b_Mod_can 14 (.ifCond .ne) 17 20 := ⟨6, by decide +kernel, by decide, rfl⟩
theorem d_Mod_can_17 : zd_k b_Mod_can "SameTuesdayModel" 17 (-2) 19 := Or.inr (Or.inl ⟨(-2), by decide +kernel, by decide, rfl⟩)
theorem d_Mod_can_19 : zd b_Mod_can 19 .ireturn 1 20 := ⟨by decide +kernel, rfl⟩
theorem d_Mod_can_20 : zd_l .aload_n .aload b_Mod_can 20 0 21 := Or.inl ⟨0, rfl, by decide +kernel, rfl⟩
theorem d_Mod_can_21 : zd b_Mod_can 21 (.getfield 87) 3 24 := ⟨by decide +kernel, rfl⟩
theorem d_Mod_can_24 : zd_b b_Mod_can 24 (.ifCond .ne) 27 30 := ⟨6, by decide +kernel, by decide, rfl⟩
theorem d_Mod_can_27 : zd_k b_Mod_can "SameTuesdayModel" 27 (-3) 29 := Or.inr (Or.inl ⟨(-3), by decide +kernel, by decide, rfl⟩)
theorem d_Mod_can_29 : zd b_Mod_can 29 .ireturn 1 30 := ⟨by decide +kernel, rfl⟩
theorem d_Mod_can_30 : zd_l .aload_n .aload b_Mod_can 30 0 31 := Or.inl ⟨0, rfl, by decide +kernel, rfl⟩
theorem d_Mod_can_31 : zd_l .iload_n .iload b_Mod_can 31 1 32 := Or.inl ⟨1, rfl, by decide +kernel, rfl⟩
theorem d_Mod_can_32 : zd b_Mod_can 32 (.invokevirtual 213) 3 35 := ⟨by decide +kernel, rfl⟩
theorem d_Mod_can_35 : zd_l .aload_n .aload b_Mod_can 35 0 36 := Or.inl ⟨0, rfl, by decide +kernel, rfl⟩
theorem d_Mod_can_36 : zd b_Mod_can 36 (.getfield 72) 3 39 := ⟨by decide +kernel, rfl⟩
theorem d_Mod_can_39 : zd_l .iload_n .iload b_Mod_can 39 2 40 := Or.inl ⟨2, rfl, by decide +kernel, rfl⟩
theorem d_Mod_can_40 : zd b_Mod_can 40 .baload 1 41 := ⟨by decide +kernel, rfl⟩
theorem d_Mod_can_41 : zd_b b_Mod_can 41 (.ifCond .eq) 44 48 := ⟨7, by decide +kernel, by decide, rfl⟩
theorem d_Mod_can_44 : zd_k b_Mod_can "SameTuesdayModel" 44 1 45 := Or.inl ⟨1, by decide +kernel, by decide, rfl⟩
theorem d_Mod_can_45 : zd_b b_Mod_can 45 .goto 48 49 := ⟨4, by decide +kernel, by decide, rfl⟩
theorem d_Mod_can_48 : zd_k b_Mod_can "SameTuesdayModel" 48 0 49 := Or.inl ⟨0, by decide +kernel, by decide, rfl⟩
theorem d_Mod_can_49 : zd b_Mod_can 49 .ireturn 1 50 := ⟨by decide +kernel, rfl⟩
theorem d_Mod_isWithinOne_0 : zd_k b_Mod_isWithinOne "SameTuesdayModel" 0 0 1 := Or.inl ⟨0, by decide +kernel, by decide, rfl⟩
theorem d_Mod_isWithinOne_1 : zd_l .istore_n .istore b_Mod_isWithinOne 1 2 2 := Or.inl ⟨2, rfl, by decide +kernel, rfl⟩
theorem d_Mod_isWithinOne_2 : zd_l .iload_n .iload b_Mod_isWithinOne 2 2 3 := Or.inl ⟨2, rfl, by decide +kernel, rfl⟩
theorem d_Mod_isWithinOne_3 : zd_k b_Mod_isWithinOne "SameTuesdayModel" 3 64 5 := Or.inr (Or.inl ⟨64, by decide +kernel, by decide, rfl⟩)
theorem d_Mod_isWithinOne_5 : zd_b b_Mod_isWithinOne 5 (.if_icmp .ge) 8 33 := ⟨28, by decide +kernel, by decide, rfl⟩
theorem d_Mod_isWithinOne_8 : zd_l .aload_n .aload b_Mod_isWithinOne 8 0 9 := Or.inl ⟨0, rfl, by decide +kernel, rfl⟩
theorem d_Mod_isWithinOne_9 : zd b_Mod_isWithinOne 9 (.getfield 72) 3 12 := ⟨by decide +kernel, rfl⟩
theorem d_Mod_isWithinOne_12 : zd_l .iload_n .iload b_Mod_isWithinOne 12 2 13 := Or.inl ⟨2, rfl, by decide +kernel, rfl⟩
theorem d_Mod_isWithinOne_13 : zd b_Mod_isWithinOne 13 .baload 1 14 := ⟨by decide +kernel, rfl⟩
theorem d_Mod_isWithinOne_14 : zd_b b_Mod_isWithinOne 14 (.ifCond .eq) 17 27 := ⟨13, by decide +kernel, by decide, rfl⟩
theorem d_Mod_isWithinOne_17 : zd_l .iload_n .iload b_Mod_isWithinOne 17 1 18 := Or.inl ⟨1, rfl, by decide +kernel, rfl⟩
theorem d_Mod_isWithinOne_18 : zd_l .iload_n .iload b_Mod_isWithinOne 18 2 19 := Or.inl ⟨2, rfl, by decide +kernel, rfl⟩
theorem d_Mod_isWithinOne_19 : zd_k b_Mod_isWithinOne "SameTuesdayModel" 19 (-1) 20 := Or.inl ⟨(-1), by decide +kernel, by decide, rfl⟩
theorem d_Mod_isWithinOne_20 : zd b_Mod_isWithinOne 20 .ixor 1 21 := ⟨by decide +kernel, rfl⟩
theorem d_Mod_isWithinOne_21 : zd b_Mod_isWithinOne 21 .iand 1 22 := ⟨by decide +kernel, rfl⟩
theorem d_Mod_isWithinOne_22 : zd_b b_Mod_isWithinOne 22 (.ifCond .ne) 25 27 := ⟨5, by decide +kernel, by decide, rfl⟩
theorem d_Mod_isWithinOne_25 : zd_k b_Mod_isWithinOne "SameTuesdayModel" 25 1 26 := Or.inl ⟨1, by decide +kernel, by decide, rfl⟩
theorem d_Mod_isWithinOne_26 : zd b_Mod_isWithinOne 26 .ireturn 1 27 := ⟨by decide +kernel, rfl⟩
theorem d_Mod_isWithinOne_27 : zd_i b_Mod_isWithinOne 27 2 1 1 30 := ⟨by decide +kernel, by decide, rfl⟩
theorem d_Mod_isWithinOne_30 : zd_b b_Mod_isWithinOne 30 .goto 33 2 := ⟨(-28), by decide +kernel, by decide, rfl⟩
theorem d_Mod_isWithinOne_33 : zd_k b_Mod_isWithinOne "SameTuesdayModel" 33 0 34 := Or.inl ⟨0, by decide +kernel, by decide, rfl⟩
theorem d_Mod_isWithinOne_34 : zd b_Mod_isWithinOne 34 .ireturn 1 35 := ⟨by decide +kernel, rfl⟩
theorem d_Mod_soonest_0 : zd_l .iload_n .iload b_Mod_soonest 0 1 1 := Or.inl ⟨1, rfl, by decide +kernel, rfl⟩
theorem d_Mod_soonest_1 : zd b_Mod_soonest 1 (.invokestatic 210) 3 4 := ⟨by decide +kernel, rfl⟩
theorem d_Mod_soonest_4 : zd_b b_Mod_soonest 4 (.ifCond .ne) 7 10 := ⟨6, by decide +kernel, by decide, rfl⟩
theorem d_Mod_soonest_7 : zd_k b_Mod_soonest "SameTuesdayModel" 7 (-2) 9 := Or.inr (Or.inl ⟨(-2), by decide +kernel, by decide, rfl⟩)
theorem d_Mod_soonest_9 : zd b_Mod_soonest 9 .ireturn 1 10 := ⟨by decide +kernel, rfl⟩
theorem d_Mod_soonest_10 : zd_l .aload_n .aload b_Mod_soonest 10 0 11 := Or.inl ⟨0, rfl, by decide +kernel, rfl⟩
theorem d_Mod_soonest_11 : zd b_Mod_soonest 11 (.getfield 87) 3 14 := ⟨by decide +kernel, rfl⟩
theorem d_Mod_soonest_14 : zd_b b_Mod_soonest 14 (.ifCond .ne) 17 20 := ⟨6, by decide +kernel, by decide, rfl⟩
theorem d_Mod_soonest_17 : zd_k b_Mod_soonest "SameTuesdayModel" 17 (-3) 19 := Or.inr (Or.inl ⟨(-3), by decide +kernel, by decide, rfl⟩)
theorem d_Mod_soonest_19 : zd b_Mod_soonest 19 .ireturn 1 20 := ⟨by decide +kernel, rfl⟩
theorem d_Mod_soonest_20 : zd_l .aload_n .aload b_Mod_soonest 20 0 21 := Or.inl ⟨0, rfl, by decide +kernel, rfl⟩
theorem d_Mod_soonest_21 : zd b_Mod_soonest 21 (.invokevirtual 201) 3 24 := ⟨by decide +kernel, rfl⟩
theorem d_Mod_soonest_24 : zd_k b_Mod_soonest "SameTuesdayModel" 24 0 25 := Or.inl ⟨0, by decide +kernel, by decide, rfl⟩
theorem d_Mod_soonest_25 : zd_l .istore_n .istore b_Mod_soonest 25 2 26 := Or.inl ⟨2, rfl, by decide +kernel, rfl⟩
theorem d_Mod_soonest_26 : zd_l .iload_n .iload b_Mod_soonest 26 2 27 := Or.inl ⟨2, rfl, by decide +kernel, rfl⟩
theorem d_Mod_soonest_27 : zd_l .aload_n .aload b_Mod_soonest 27 0 28 := Or.inl ⟨0, rfl, by decide +kernel, rfl⟩
theorem d_Mod_soonest_28 : zd b_Mod_soonest 28 (.getfield 120) 3 31 := ⟨by decide +kernel, rfl⟩
theorem d_Mod_soonest_31 : zd_b b_Mod_soonest 31 (.if_icmp .ge) 34 59 := ⟨28, by decide +kernel, by decide, rfl⟩
theorem d_Mod_soonest_34 : zd_l .aload_n .aload b_Mod_soonest 34 0 35 := Or.inl ⟨0, rfl, by decide +kernel, rfl⟩
theorem d_Mod_soonest_35 : zd_l .iload_n .iload b_Mod_soonest 35 2 36 := Or.inl ⟨2, rfl, by decide +kernel, rfl⟩
theorem d_Mod_soonest_36 : zd b_Mod_soonest 36 (.invokevirtual 204) 3 39 := ⟨by decide +kernel, rfl⟩
theorem d_Mod_soonest_39 : zd_l .aload_n .aload b_Mod_soonest 39 0 40 := Or.inl ⟨0, rfl, by decide +kernel, rfl⟩
theorem d_Mod_soonest_40 : zd b_Mod_soonest 40 (.invokevirtual 207) 3 43 := ⟨by decide +kernel, rfl⟩
theorem d_Mod_soonest_43 : zd_l .aload_n .aload b_Mod_soonest 43 0 44 := Or.inl ⟨0, rfl, by decide +kernel, rfl⟩
theorem d_Mod_soonest_44 : zd_l .iload_n .iload b_Mod_soonest 44 1 45 := Or.inl ⟨1, rfl, by decide +kernel, rfl⟩
theorem d_Mod_soonest_45 : zd b_Mod_soonest 45 (.invokevirtual 216) 3 48 := ⟨by decide +kernel, rfl⟩
theorem d_Mod_soonest_48 : zd_b b_Mod_soonest 48 (.ifCond .eq) 51 53 := ⟨5, by decide +kernel, by decide, rfl⟩
theorem d_Mod_soonest_51 : zd_l .iload_n .iload b_Mod_soonest 51 2 52 := Or.inl ⟨2, rfl, by decide +kernel, rfl⟩
theorem d_Mod_soonest_52 : zd b_Mod_soonest 52 .ireturn 1 53 := ⟨by decide +kernel, rfl⟩
theorem d_Mod_soonest_53 : zd_i b_Mod_soonest 53 2 1 1 56 := ⟨by decide +kernel, by decide, rfl⟩
theorem d_Mod_soonest_56 : zd_b b_Mod_soonest 56 .goto 59 26 := ⟨(-30), by decide +kernel, by decide, rfl⟩
theorem d_Mod_soonest_59 : zd_k b_Mod_soonest "SameTuesdayModel" 59 (-9) 61 := Or.inr (Or.inl ⟨(-9), by decide +kernel, by decide, rfl⟩)
theorem d_Mod_soonest_61 : zd b_Mod_soonest 61 .ireturn 1 62 := ⟨by decide +kernel, rfl⟩
theorem d_Mod_bar_0 : zd_l .iload_n .iload b_Mod_bar 0 1 1 := Or.inl ⟨1, rfl, by decide +kernel, rfl⟩
theorem d_Mod_bar_1 : zd b_Mod_bar 1 (.invokestatic 210) 3 4 := ⟨by decide +kernel, rfl⟩
theorem d_Mod_bar_4 : zd_b b_Mod_bar 4 (.ifCond .ne) 7 10 := ⟨6, by decide +kernel, by decide, rfl⟩
theorem d_Mod_bar_7 : zd_k b_Mod_bar "SameTuesdayModel" 7 (-2) 9 := Or.inr (Or.inl ⟨(-2), by decide +kernel, by decide, rfl⟩)
theorem d_Mod_bar_9 : zd b_Mod_bar 9 .ireturn 1 10 := ⟨by decide +kernel, rfl⟩
theorem d_Mod_bar_10 : zd_l .aload_n .aload b_Mod_bar 10 0 11 := Or.inl ⟨0, rfl, by decide +kernel, rfl⟩
theorem d_Mod_bar_11 : zd b_Mod_bar 11 (.getfield 87) 3 14 := ⟨by decide +kernel, rfl⟩
theorem d_Mod_bar_14 : zd_b b_Mod_bar 14 (.ifCond .ne) 17 20 := ⟨6, by decide +kernel, by decide, rfl⟩
theorem d_Mod_bar_17 : zd_k b_Mod_bar "SameTuesdayModel" 17 (-3) 19 := Or.inr (Or.inl ⟨(-3), by decide +kernel, by decide, rfl⟩)
theorem d_Mod_bar_19 : zd b_Mod_bar 19 .ireturn 1 20 := ⟨by decide +kernel, rfl⟩
theorem d_Mod_bar_20 : zd_l .aload_n .aload b_Mod_bar 20 0 21 := Or.inl ⟨0, rfl, by decide +kernel, rfl⟩
theorem d_Mod_bar_21 : zd_k b_Mod_bar "SameTuesdayModel" 21 60 23 := Or.inr (Or.inl ⟨60, by decide +kernel, by decide, rfl⟩)
theorem d_Mod_bar_23 : zd b_Mod_bar 23 (.invokevirtual 213) 3 26 := ⟨by decide +kernel, rfl⟩
theorem d_Mod_bar_26 : zd_k b_Mod_bar "SameTuesdayModel" 26 0 27 := Or.inl ⟨0, by decide +kernel, by decide, rfl⟩
theorem d_Mod_bar_27 : zd_l .istore_n .istore b_Mod_bar 27 2 28 := Or.inl ⟨2, rfl, by decide +kernel, rfl⟩
theorem d_Mod_bar_28 : zd_l .iload_n .iload b_Mod_bar 28 2 29 := Or.inl ⟨2, rfl, by decide +kernel, rfl⟩
theorem d_Mod_bar_29 : zd_k b_Mod_bar "SameTuesdayModel" 29 6 31 := Or.inr (Or.inl ⟨6, by decide +kernel, by decide, rfl⟩)
theorem d_Mod_bar_31 : zd_b b_Mod_bar 31 (.if_icmp .ge) 34 90 := ⟨59, by decide +kernel, by decide, rfl⟩
theorem d_Mod_bar_34 : zd_l .iload_n .iload b_Mod_bar 34 2 35 := Or.inl ⟨2, rfl, by decide +kernel, rfl⟩
theorem d_Mod_bar_35 : zd_k b_Mod_bar "SameTuesdayModel" 35 1 36 := Or.inl ⟨1, by decide +kernel, by decide, rfl⟩
theorem d_Mod_bar_36 : zd b_Mod_bar 36 .iadd 1 37 := ⟨by decide +kernel, rfl⟩
theorem d_Mod_bar_37 : zd_l .istore_n .istore b_Mod_bar 37 3 38 := Or.inl ⟨3, rfl, by decide +kernel, rfl⟩
theorem d_Mod_bar_38 : zd_l .iload_n .iload b_Mod_bar 38 3 39 := Or.inl ⟨3, rfl, by decide +kernel, rfl⟩
theorem d_Mod_bar_39 : zd_k b_Mod_bar "SameTuesdayModel" 39 6 41 := Or.inr (Or.inl ⟨6, by decide +kernel, by decide, rfl⟩)
theorem d_Mod_bar_41 : zd_b b_Mod_bar 41 (.if_icmp .ge) 44 84 := ⟨43, by decide +kernel, by decide, rfl⟩
theorem d_Mod_bar_44 : zd_k b_Mod_bar "SameTuesdayModel" 44 1 45 := Or.inl ⟨1, by decide +kernel, by decide, rfl⟩
theorem d_Mod_bar_45 : zd_l .iload_n .iload b_Mod_bar 45 2 46 := Or.inl ⟨2, rfl, by decide +kernel, rfl⟩
theorem d_Mod_bar_46 : zd b_Mod_bar 46 .ishl 1 47 := ⟨by decide +kernel, rfl⟩
theorem d_Mod_bar_47 : zd_k b_Mod_bar "SameTuesdayModel" 47 1 48 := Or.inl ⟨1, by decide +kernel, by decide, rfl⟩
theorem d_Mod_bar_48 : zd_l .iload_n .iload b_Mod_bar 48 3 49 := Or.inl ⟨3, rfl, by decide +kernel, rfl⟩
theorem d_Mod_bar_49 : zd b_Mod_bar 49 .ishl 1 50 := ⟨by decide +kernel, rfl⟩
theorem d_Mod_bar_50 : zd b_Mod_bar 50 .ior 1 51 := ⟨by decide +kernel, rfl⟩
theorem d_Mod_bar_51 : zd_l .istore_n .istore b_Mod_bar 51 4 53 := Or.inr ⟨by decide +kernel, rfl⟩
theorem d_Mod_bar_53 : zd_l .iload_n .iload b_Mod_bar 53 1 54 := Or.inl ⟨1, rfl, by decide +kernel, rfl⟩
theorem d_Mod_bar_54 : zd_l .iload_n .iload b_Mod_bar 54 4 56 := Or.inr ⟨by decide +kernel, rfl⟩
theorem d_Mod_bar_56 : zd b_Mod_bar 56 .iand 1 57 := ⟨by decide +kernel, rfl⟩
theorem d_Mod_bar_57 : zd_l .iload_n .iload b_Mod_bar 57 4 59 := Or.inr ⟨by decide +kernel, rfl⟩
theorem d_Mod_bar_59 : zd_b b_Mod_bar 59 (.if_icmp .ne) 62 78 := ⟨19, by decide +kernel, by decide, rfl⟩
theorem d_Mod_bar_62 : zd_l .aload_n .aload b_Mod_bar 62 0 63 := Or.inl ⟨0, rfl, by decide +kernel, rfl⟩
theorem d_Mod_bar_63 : zd_l .iload_n .iload b_Mod_bar 63 4 65 := Or.inr ⟨by decide +kernel, rfl⟩
theorem d_Mod_bar_65 : zd b_Mod_bar 65 (.invokevirtual 216) 3 68 := ⟨by decide +kernel, rfl⟩
theorem d_Mod_bar_68 : zd_b b_Mod_bar 68 (.ifCond .ne) 71 78 := ⟨10, by decide +kernel, by decide, rfl⟩
theorem d_Mod_bar_71 : zd_k b_Mod_bar "SameTuesdayModel" 71 10 73 := Or.inr (Or.inl ⟨10, by decide +kernel, by decide, rfl⟩)
theorem d_Mod_bar_73 : zd_l .iload_n .iload b_Mod_bar 73 2 74 := Or.inl ⟨2, rfl, by decide +kernel, rfl⟩
theorem d_Mod_bar_74 : zd b_Mod_bar 74 .imul 1 75 := ⟨by decide +kernel, rfl⟩
theorem d_Mod_bar_75 : zd_l .iload_n .iload b_Mod_bar 75 3 76 := Or.inl ⟨3, rfl, by decide +kernel, rfl⟩
theorem d_Mod_bar_76 : zd b_Mod_bar 76 .iadd 1 77 := ⟨by decide +kernel, rfl⟩
theorem d_Mod_bar_77 : zd b_Mod_bar 77 .ireturn 1 78 := ⟨by decide +kernel, rfl⟩
theorem d_Mod_bar_78 : zd_i b_Mod_bar 78 3 1 1 81 := ⟨by decide +kernel, by decide, rfl⟩
theorem d_Mod_bar_81 : zd_b b_Mod_bar 81 .goto 84 38 := ⟨(-43), by decide +kernel, by decide, rfl⟩
theorem d_Mod_bar_84 : zd_i b_Mod_bar 84 2 1 1 87 := ⟨by decide +kernel, by decide, rfl⟩
theorem d_Mod_bar_87 : zd_b b_Mod_bar 87 .goto 90 28 := ⟨(-59), by decide +kernel, by decide, rfl⟩
theorem d_Mod_bar_90 : zd_k b_Mod_bar "SameTuesdayModel" 90 (-9) 92 := Or.inr (Or.inl ⟨(-9), by decide +kernel, by decide, rfl⟩)
theorem d_Mod_bar_92 : zd b_Mod_bar 92 .ireturn 1 93 := ⟨by decide +kernel, rfl⟩
theorem d_Mod_day_0 : zd_l .iload_n .iload b_Mod_day 0 1 1 := Or.inl ⟨1, rfl, by decide +kernel, rfl⟩
theorem d_Mod_day_1 : zd b_Mod_day 1 (.invokestatic 210) 3 4 := ⟨by decide +kernel, rfl⟩
theorem d_Mod_day_4 : zd_b b_Mod_day 4 (.ifCond .ne) 7 10 := ⟨6, by decide +kernel, by decide, rfl⟩
theorem d_Mod_day_7 : zd_k b_Mod_day "SameTuesdayModel" 7 (-2) 9 := Or.inr (Or.inl ⟨(-2), by decide +kernel, by decide, rfl⟩)
theorem d_Mod_day_9 : zd b_Mod_day 9 .ireturn 1 10 := ⟨by decide +kernel, rfl⟩
theorem d_Mod_day_10 : zd_l .aload_n .aload b_Mod_day 10 0 11 := Or.inl ⟨0, rfl, by decide +kernel, rfl⟩
theorem d_Mod_day_11 : zd b_Mod_day 11 (.getfield 87) 3 14 := ⟨by decide +kernel, rfl⟩
theorem d_Mod_day_14 : zd_b b_Mod_day 14 (.ifCond .ne) 17 20 := ⟨6, by decide +kernel, by decide, rfl⟩
theorem d_Mod_day_17 : zd_k b_Mod_day "SameTuesdayModel" 17 (-3) 19 := Or.inr (Or.inl ⟨(-3), by decide +kernel, by decide, rfl⟩)
theorem d_Mod_day_19 : zd b_Mod_day 19 .ireturn 1 20 := ⟨by decide +kernel, rfl⟩
theorem d_Mod_day_20 : zd_l .aload_n .aload b_Mod_day 20 0 21 := Or.inl ⟨0, rfl, by decide +kernel, rfl⟩
theorem d_Mod_day_21 : zd b_Mod_day 21 (.getfield 123) 3 24 := ⟨by decide +kernel, rfl⟩
theorem d_Mod_day_24 : zd_k b_Mod_day "SameTuesdayModel" 24 8 26 := Or.inr (Or.inl ⟨8, by decide +kernel, by decide, rfl⟩)
theorem d_Mod_day_26 : zd_b b_Mod_day 26 (.if_icmp .ne) 29 32 := ⟨6, by decide +kernel, by decide, rfl⟩
theorem d_Mod_day_29 : zd_k b_Mod_day "SameTuesdayModel" 29 (-4) 31 := Or.inr (Or.inl ⟨(-4), by decide +kernel, by decide, rfl⟩)
theorem d_Mod_day_31 : zd b_Mod_day 31 .ireturn 1 32 := ⟨by decide +kernel, rfl⟩
theorem d_Mod_day_32 : zd_l .aload_n .aload b_Mod_day 32 0 33 := Or.inl ⟨0, rfl, by decide +kernel, rfl⟩
theorem d_Mod_day_33 : zd b_Mod_day 33 (.getfield 75) 3 36 := ⟨by decide +kernel, rfl⟩
theorem d_Mod_day_36 : zd_l .aload_n .aload b_Mod_day 36 0 37 := Or.inl ⟨0, rfl, by decide +kernel, rfl⟩
theorem d_Mod_day_37 : zd b_Mod_day 37 (.getfield 123) 3 40 := ⟨by decide +kernel, rfl⟩
theorem d_Mod_day_40 : zd_l .iload_n .iload b_Mod_day 40 1 41 := Or.inl ⟨1, rfl, by decide +kernel, rfl⟩
theorem d_Mod_day_41 : zd b_Mod_day 41 .iastore 1 42 := ⟨by decide +kernel, rfl⟩
theorem d_Mod_day_42 : zd_l .aload_n .aload b_Mod_day 42 0 43 := Or.inl ⟨0, rfl, by decide +kernel, rfl⟩
theorem d_Mod_day_43 : zd b_Mod_day 43 .dup 1 44 := ⟨by decide +kernel, rfl⟩
theorem d_Mod_day_44 : zd b_Mod_day 44 (.getfield 123) 3 47 := ⟨by decide +kernel, rfl⟩
theorem d_Mod_day_47 : zd_k b_Mod_day "SameTuesdayModel" 47 1 48 := Or.inl ⟨1, by decide +kernel, by decide, rfl⟩
theorem d_Mod_day_48 : zd b_Mod_day 48 .iadd 1 49 := ⟨by decide +kernel, rfl⟩
theorem d_Mod_day_49 : zd b_Mod_day 49 (.putfield 123) 3 52 := ⟨by decide +kernel, rfl⟩
theorem d_Mod_day_52 : zd_l .aload_n .aload b_Mod_day 52 0 53 := Or.inl ⟨0, rfl, by decide +kernel, rfl⟩
theorem d_Mod_day_53 : zd b_Mod_day 53 (.getfield 123) 3 56 := ⟨by decide +kernel, rfl⟩
theorem d_Mod_day_56 : zd_k b_Mod_day "SameTuesdayModel" 56 1 57 := Or.inl ⟨1, by decide +kernel, by decide, rfl⟩
theorem d_Mod_day_57 : zd b_Mod_day 57 .isub 1 58 := ⟨by decide +kernel, rfl⟩
theorem d_Mod_day_58 : zd b_Mod_day 58 .ireturn 1 59 := ⟨by decide +kernel, rfl⟩
theorem d_Mod_forget_0 : zd_l .iload_n .iload b_Mod_forget 0 1 1 := Or.inl ⟨1, rfl, by decide +kernel, rfl⟩
theorem d_Mod_forget_1 : zd_k b_Mod_forget "SameTuesdayModel" 1 0 2 := Or.inl ⟨0, by decide +kernel, by decide, rfl⟩
theorem d_Mod_forget_2 : zd_l .aload_n .aload b_Mod_forget 2 0 3 := Or.inl ⟨0, rfl, by decide +kernel, rfl⟩
theorem d_Mod_forget_3 : zd b_Mod_forget 3 (.getfield 123) 3 6 := ⟨by decide +kernel, rfl⟩
theorem d_Mod_forget_6 : zd b_Mod_forget 6 (.invokestatic 83) 3 9 := ⟨by decide +kernel, rfl⟩
theorem d_Mod_forget_9 : zd_b b_Mod_forget 9 (.ifCond .ne) 12 15 := ⟨6, by decide +kernel, by decide, rfl⟩
theorem d_Mod_forget_12 : zd_k b_Mod_forget "SameTuesdayModel" 12 (-2) 14 := Or.inr (Or.inl ⟨(-2), by decide +kernel, by decide, rfl⟩)
theorem d_Mod_forget_14 : zd b_Mod_forget 14 .ireturn 1 15 := ⟨by decide +kernel, rfl⟩
theorem d_Mod_forget_15 : zd_l .aload_n .aload b_Mod_forget 15 0 16 := Or.inl ⟨0, rfl, by decide +kernel, rfl⟩
theorem d_Mod_forget_16 : zd b_Mod_forget 16 .dup 1 17 := ⟨by decide +kernel, rfl⟩
theorem d_Mod_forget_17 : zd b_Mod_forget 17 (.getfield 123) 3 20 := ⟨by decide +kernel, rfl⟩
theorem d_Mod_forget_20 : zd_l .iload_n .iload b_Mod_forget 20 1 21 := Or.inl ⟨1, rfl, by decide +kernel, rfl⟩
theorem d_Mod_forget_21 : zd b_Mod_forget 21 .isub 1 22 := ⟨by decide +kernel, rfl⟩
theorem d_Mod_forget_22 : zd b_Mod_forget 22 (.putfield 123) 3 25 := ⟨by decide +kernel, rfl⟩
theorem d_Mod_forget_25 : zd_l .aload_n .aload b_Mod_forget 25 0 26 := Or.inl ⟨0, rfl, by decide +kernel, rfl⟩
theorem d_Mod_forget_26 : zd b_Mod_forget 26 (.getfield 123) 3 29 := ⟨by decide +kernel, rfl⟩
theorem d_Mod_forget_29 : zd b_Mod_forget 29 .ireturn 1 30 := ⟨by decide +kernel, rfl⟩
theorem d_Mod_isLaw_0 : zd_k b_Mod_isLaw "SameTuesdayModel" 0 0 1 := Or.inl ⟨0, by decide +kernel, by decide, rfl⟩
theorem d_Mod_isLaw_1 : zd_l .istore_n .istore b_Mod_isLaw 1 2 2 := Or.inl ⟨2, rfl, by decide +kernel, rfl⟩
theorem d_Mod_isLaw_2 : zd_l .iload_n .iload b_Mod_isLaw 2 2 3 := Or.inl ⟨2, rfl, by decide +kernel, rfl⟩
theorem d_Mod_isLaw_3 : zd_l .aload_n .aload b_Mod_isLaw 3 0 4 := Or.inl ⟨0, rfl, by decide +kernel, rfl⟩
theorem d_Mod_isLaw_4 : zd b_Mod_isLaw 4 (.getfield 123) 3 7 := ⟨by decide +kernel, rfl⟩
theorem d_Mod_isLaw_7 : zd_b b_Mod_isLaw 7 (.if_icmp .ge) 10 31 := ⟨24, by decide +kernel, by decide, rfl⟩
theorem d_Mod_isLaw_10 : zd_l .iload_n .iload b_Mod_isLaw 10 1 11 := Or.inl ⟨1, rfl, by decide +kernel, rfl⟩
theorem d_Mod_isLaw_11 : zd_l .aload_n .aload b_Mod_isLaw 11 0 12 := Or.inl ⟨0, rfl, by decide +kernel, rfl⟩
theorem d_Mod_isLaw_12 : zd b_Mod_isLaw 12 (.getfield 75) 3 15 := ⟨by decide +kernel, rfl⟩
theorem d_Mod_isLaw_15 : zd_l .iload_n .iload b_Mod_isLaw 15 2 16 := Or.inl ⟨2, rfl, by decide +kernel, rfl⟩
theorem d_Mod_isLaw_16 : zd b_Mod_isLaw 16 .iaload 1 17 := ⟨by decide +kernel, rfl⟩
theorem d_Mod_isLaw_17 : zd_k b_Mod_isLaw "SameTuesdayModel" 17 (-1) 18 := Or.inl ⟨(-1), by decide +kernel, by decide, rfl⟩
theorem d_Mod_isLaw_18 : zd b_Mod_isLaw 18 .ixor 1 19 := ⟨by decide +kernel, rfl⟩
theorem d_Mod_isLaw_19 : zd b_Mod_isLaw 19 .iand 1 20 := ⟨by decide +kernel, rfl⟩
theorem d_Mod_isLaw_20 : zd_b b_Mod_isLaw 20 (.ifCond .ne) 23 25 := ⟨5, by decide +kernel, by decide, rfl⟩
theorem d_Mod_isLaw_23 : zd_k b_Mod_isLaw "SameTuesdayModel" 23 0 24 := Or.inl ⟨0, by decide +kernel, by decide, rfl⟩
theorem d_Mod_isLaw_24 : zd b_Mod_isLaw 24 .ireturn 1 25 := ⟨by decide +kernel, rfl⟩
theorem d_Mod_isLaw_25 : zd_i b_Mod_isLaw 25 2 1 1 28 := ⟨by decide +kernel, by decide, rfl⟩
theorem d_Mod_isLaw_28 : zd_b b_Mod_isLaw 28 .goto 31 2 := ⟨(-26), by decide +kernel, by decide, rfl⟩
theorem d_Mod_isLaw_31 : zd_k b_Mod_isLaw "SameTuesdayModel" 31 1 32 := Or.inl ⟨1, by decide +kernel, by decide, rfl⟩
theorem d_Mod_isLaw_32 : zd b_Mod_isLaw 32 .ireturn 1 33 := ⟨by decide +kernel, rfl⟩
theorem d_Mod_laws_0 : zd_l .iload_n .iload b_Mod_laws 0 1 1 := Or.inl ⟨1, rfl, by decide +kernel, rfl⟩
theorem d_Mod_laws_1 : zd_k b_Mod_laws "SameTuesdayModel" 1 (-1) 2 := Or.inl ⟨(-1), by decide +kernel, by decide, rfl⟩
theorem d_Mod_laws_2 : zd_b b_Mod_laws 2 (.if_icmp .ge) 5 7 := ⟨5, by decide +kernel, by decide, rfl⟩
theorem d_Mod_laws_5 : zd_k b_Mod_laws "SameTuesdayModel" 5 (-1) 6 := Or.inl ⟨(-1), by decide +kernel, by decide, rfl⟩
theorem d_Mod_laws_6 : zd b_Mod_laws 6 .ireturn 1 7 := ⟨by decide +kernel, rfl⟩
theorem d_Mod_laws_7 : zd_l .aload_n .aload b_Mod_laws 7 0 8 := Or.inl ⟨0, rfl, by decide +kernel, rfl⟩
theorem d_Mod_laws_8 : zd b_Mod_laws 8 (.getfield 87) 3 11 := ⟨by decide +kernel, rfl⟩
theorem d_Mod_laws_11 : zd_b b_Mod_laws 11 (.ifCond .ne) 14 17 := ⟨6, by decide +kernel, by decide, rfl⟩
theorem d_Mod_laws_14 : zd_k b_Mod_laws "SameTuesdayModel" 14 (-3) 16 := Or.inr (Or.inl ⟨(-3), by decide +kernel, by decide, rfl⟩)
theorem d_Mod_laws_16 : zd b_Mod_laws 16 .ireturn 1 17 := ⟨by decide +kernel, rfl⟩
theorem d_Mod_laws_17 : zd_k b_Mod_laws "SameTuesdayModel" 17 0 18 := Or.inl ⟨0, by decide +kernel, by decide, rfl⟩
theorem d_Mod_laws_18 : zd_l .istore_n .istore b_Mod_laws 18 2 19 := Or.inl ⟨2, rfl, by decide +kernel, rfl⟩
theorem d_Mod_laws_19 : zd_k b_Mod_laws "SameTuesdayModel" 19 0 20 := Or.inl ⟨0, by decide +kernel, by decide, rfl⟩
theorem d_Mod_laws_20 : zd_l .istore_n .istore b_Mod_laws 20 3 21 := Or.inl ⟨3, rfl, by decide +kernel, rfl⟩
theorem d_Mod_laws_21 : zd_l .iload_n .iload b_Mod_laws 21 3 22 := Or.inl ⟨3, rfl, by decide +kernel, rfl⟩
theorem d_Mod_laws_22 : zd_k b_Mod_laws "SameTuesdayModel" 22 64 24 := Or.inr (Or.inl ⟨64, by decide +kernel, by decide, rfl⟩)
theorem d_Mod_laws_24 : zd_b b_Mod_laws 24 (.if_icmp .ge) 27 51 := ⟨27, by decide +kernel, by decide, rfl⟩
theorem d_Mod_laws_27 : zd_l .aload_n .aload b_Mod_laws 27 0 28 := Or.inl ⟨0, rfl, by decide +kernel, rfl⟩
theorem d_Mod_laws_28 : zd_l .iload_n .iload b_Mod_laws 28 3 29 := Or.inl ⟨3, rfl, by decide +kernel, rfl⟩
theorem d_Mod_laws_29 : zd b_Mod_laws 29 (.invokevirtual 219) 3 32 := ⟨by decide +kernel, rfl⟩
theorem d_Mod_laws_32 : zd_b b_Mod_laws 32 (.ifCond .eq) 35 45 := ⟨13, by decide +kernel, by decide, rfl⟩
theorem d_Mod_laws_35 : zd_l .iload_n .iload b_Mod_laws 35 2 36 := Or.inl ⟨2, rfl, by decide +kernel, rfl⟩
theorem d_Mod_laws_36 : zd_l .iload_n .iload b_Mod_laws 36 1 37 := Or.inl ⟨1, rfl, by decide +kernel, rfl⟩
theorem d_Mod_laws_37 : zd_b b_Mod_laws 37 (.if_icmp .ne) 40 42 := ⟨5, by decide +kernel, by decide, rfl⟩
theorem d_Mod_laws_40 : zd_l .iload_n .iload b_Mod_laws 40 3 41 := Or.inl ⟨3, rfl, by decide +kernel, rfl⟩
theorem d_Mod_laws_41 : zd b_Mod_laws 41 .ireturn 1 42 := ⟨by decide +kernel, rfl⟩
theorem d_Mod_laws_42 : zd_i b_Mod_laws 42 2 1 1 45 := ⟨by decide +kernel, by decide, rfl⟩
theorem d_Mod_laws_45 : zd_i b_Mod_laws 45 3 1 1 48 := ⟨by decide +kernel, by decide, rfl⟩
theorem d_Mod_laws_48 : zd_b b_Mod_laws 48 .goto 51 21 := ⟨(-27), by decide +kernel, by decide, rfl⟩
theorem d_Mod_laws_51 : zd_l .iload_n .iload b_Mod_laws 51 1 52 := Or.inl ⟨1, rfl, by decide +kernel, rfl⟩
theorem d_Mod_laws_52 : zd_k b_Mod_laws "SameTuesdayModel" 52 (-1) 53 := Or.inl ⟨(-1), by decide +kernel, by decide, rfl⟩
theorem d_Mod_laws_53 : zd_b b_Mod_laws 53 (.if_icmp .ne) 56 60 := ⟨7, by decide +kernel, by decide, rfl⟩
theorem d_Mod_laws_56 : zd_l .iload_n .iload b_Mod_laws 56 2 57 := Or.inl ⟨2, rfl, by decide +kernel, rfl⟩
theorem d_Mod_laws_57 : zd_b b_Mod_laws 57 .goto 60 62 := ⟨5, by decide +kernel, by decide, rfl⟩
theorem d_Mod_laws_60 : zd_k b_Mod_laws "SameTuesdayModel" 60 (-9) 62 := Or.inr (Or.inl ⟨(-9), by decide +kernel, by decide, rfl⟩)
theorem d_Mod_laws_62 : zd b_Mod_laws 62 .ireturn 1 63 := ⟨by decide +kernel, rfl⟩
theorem d_Mod_size_0 : zd_k b_Mod_size "SameTuesdayModel" 0 0 1 := Or.inl ⟨0, by decide +kernel, by decide, rfl⟩
theorem d_Mod_size_1 : zd_l .istore_n .istore b_Mod_size 1 1 2 := Or.inl ⟨1, rfl, by decide +kernel, rfl⟩
theorem d_Mod_size_2 : zd_l .iload_n .iload b_Mod_size 2 0 3 := Or.inl ⟨0, rfl, by decide +kernel, rfl⟩
theorem d_Mod_size_3 : zd_l .istore_n .istore b_Mod_size 3 2 4 := Or.inl ⟨2, rfl, by decide +kernel, rfl⟩
theorem d_Mod_size_4 : zd_l .iload_n .iload b_Mod_size 4 2 5 := Or.inl ⟨2, rfl, by decide +kernel, rfl⟩
theorem d_Mod_size_5 : zd_b b_Mod_size 5 (.ifCond .le) 8 21 := ⟨16, by decide +kernel, by decide, rfl⟩
theorem d_Mod_size_8 : zd_l .iload_n .iload b_Mod_size 8 1 9 := Or.inl ⟨1, rfl, by decide +kernel, rfl⟩
theorem d_Mod_size_9 : zd_l .iload_n .iload b_Mod_size 9 2 10 := Or.inl ⟨2, rfl, by decide +kernel, rfl⟩
theorem d_Mod_size_10 : zd_k b_Mod_size "SameTuesdayModel" 10 1 11 := Or.inl ⟨1, by decide +kernel, by decide, rfl⟩
theorem d_Mod_size_11 : zd b_Mod_size 11 .iand 1 12 := ⟨by decide +kernel, rfl⟩
theorem d_Mod_size_12 : zd b_Mod_size 12 .iadd 1 13 := ⟨by decide +kernel, rfl⟩
theorem d_Mod_size_13 : zd_l .istore_n .istore b_Mod_size 13 1 14 := Or.inl ⟨1, rfl, by decide +kernel, rfl⟩
theorem d_Mod_size_14 : zd_l .iload_n .iload b_Mod_size 14 2 15 := Or.inl ⟨2, rfl, by decide +kernel, rfl⟩
theorem d_Mod_size_15 : zd_k b_Mod_size "SameTuesdayModel" 15 1 16 := Or.inl ⟨1, by decide +kernel, by decide, rfl⟩
theorem d_Mod_size_16 : zd b_Mod_size 16 .ishr 1 17 := ⟨by decide +kernel, rfl⟩
theorem d_Mod_size_17 : zd_l .istore_n .istore b_Mod_size 17 2 18 := Or.inl ⟨2, rfl, by decide +kernel, rfl⟩
theorem d_Mod_size_18 : zd_b b_Mod_size 18 .goto 21 4 := ⟨(-14), by decide +kernel, by decide, rfl⟩
theorem d_Mod_size_21 : zd_l .iload_n .iload b_Mod_size 21 1 22 := Or.inl ⟨1, rfl, by decide +kernel, rfl⟩
theorem d_Mod_size_22 : zd b_Mod_size 22 .ireturn 1 23 := ⟨by decide +kernel, rfl⟩
theorem d_Mod_fewest_0 : zd_l .aload_n .aload b_Mod_fewest 0 0 1 := Or.inl ⟨0, rfl, by decide +kernel, rfl⟩
theorem d_Mod_fewest_1 : zd b_Mod_fewest 1 (.getfield 87) 3 4 := ⟨by decide +kernel, rfl⟩
theorem d_Mod_fewest_4 : zd_b b_Mod_fewest 4 (.ifCond .ne) 7 10 := ⟨6, by decide +kernel, by decide, rfl⟩
theorem d_Mod_fewest_7 : zd_k b_Mod_fewest "SameTuesdayModel" 7 (-3) 9 := Or.inr (Or.inl ⟨(-3), by decide +kernel, by decide, rfl⟩)
theorem d_Mod_fewest_9 : zd b_Mod_fewest 9 .ireturn 1 10 := ⟨by decide +kernel, rfl⟩
theorem d_Mod_fewest_10 : zd_k b_Mod_fewest "SameTuesdayModel" 10 (-9) 12 := Or.inr (Or.inl ⟨(-9), by decide +kernel, by decide, rfl⟩)
theorem d_Mod_fewest_12 : zd_l .istore_n .istore b_Mod_fewest 12 1 13 := Or.inl ⟨1, rfl, by decide +kernel, rfl⟩
theorem d_Mod_fewest_13 : zd_k b_Mod_fewest "SameTuesdayModel" 13 0 14 := Or.inl ⟨0, by decide +kernel, by decide, rfl⟩
theorem d_Mod_fewest_14 : zd_l .istore_n .istore b_Mod_fewest 14 2 15 := Or.inl ⟨2, rfl, by decide +kernel, rfl⟩
theorem d_Mod_fewest_15 : zd_l .iload_n .iload b_Mod_fewest 15 2 16 := Or.inl ⟨2, rfl, by decide +kernel, rfl⟩
theorem d_Mod_fewest_16 : zd_k b_Mod_fewest "SameTuesdayModel" 16 64 18 := Or.inr (Or.inl ⟨64, by decide +kernel, by decide, rfl⟩)
theorem d_Mod_fewest_18 : zd_b b_Mod_fewest 18 (.if_icmp .ge) 21 54 := ⟨36, by decide +kernel, by decide, rfl⟩
theorem d_Mod_fewest_21 : zd_l .aload_n .aload b_Mod_fewest 21 0 22 := Or.inl ⟨0, rfl, by decide +kernel, rfl⟩
theorem d_Mod_fewest_22 : zd_l .iload_n .iload b_Mod_fewest 22 2 23 := Or.inl ⟨2, rfl, by decide +kernel, rfl⟩
theorem d_Mod_fewest_23 : zd b_Mod_fewest 23 (.invokevirtual 219) 3 26 := ⟨by decide +kernel, rfl⟩
theorem d_Mod_fewest_26 : zd_b b_Mod_fewest 26 (.ifCond .eq) 29 48 := ⟨22, by decide +kernel, by decide, rfl⟩
theorem d_Mod_fewest_29 : zd_l .iload_n .iload b_Mod_fewest 29 1 30 := Or.inl ⟨1, rfl, by decide +kernel, rfl⟩
theorem d_Mod_fewest_30 : zd_k b_Mod_fewest "SameTuesdayModel" 30 (-9) 32 := Or.inr (Or.inl ⟨(-9), by decide +kernel, by decide, rfl⟩)
theorem d_Mod_fewest_32 : zd_b b_Mod_fewest 32 (.if_icmp .eq) 35 46 := ⟨14, by decide +kernel, by decide, rfl⟩
theorem d_Mod_fewest_35 : zd_l .iload_n .iload b_Mod_fewest 35 2 36 := Or.inl ⟨2, rfl, by decide +kernel, rfl⟩
theorem d_Mod_fewest_36 : zd b_Mod_fewest 36 (.invokestatic 222) 3 39 := ⟨by decide +kernel, rfl⟩
theorem d_Mod_fewest_39 : zd_l .iload_n .iload b_Mod_fewest 39 1 40 := Or.inl ⟨1, rfl, by decide +kernel, rfl⟩
theorem d_Mod_fewest_40 : zd b_Mod_fewest 40 (.invokestatic 222) 3 43 := ⟨by decide +kernel, rfl⟩
theorem d_Mod_fewest_43 : zd_b b_Mod_fewest 43 (.if_icmp .ge) 46 48 := ⟨5, by decide +kernel, by decide, rfl⟩
theorem d_Mod_fewest_46 : zd_l .iload_n .iload b_Mod_fewest 46 2 47 := Or.inl ⟨2, rfl, by decide +kernel, rfl⟩
theorem d_Mod_fewest_47 : zd_l .istore_n .istore b_Mod_fewest 47 1 48 := Or.inl ⟨1, rfl, by decide +kernel, rfl⟩
theorem d_Mod_fewest_48 : zd_i b_Mod_fewest 48 2 1 1 51 := ⟨by decide +kernel, by decide, rfl⟩
theorem d_Mod_fewest_51 : zd_b b_Mod_fewest 51 .goto 54 15 := ⟨(-36), by decide +kernel, by decide, rfl⟩
theorem d_Mod_fewest_54 : zd_l .iload_n .iload b_Mod_fewest 54 1 55 := Or.inl ⟨1, rfl, by decide +kernel, rfl⟩
theorem d_Mod_fewest_55 : zd b_Mod_fewest 55 .ireturn 1 56 := ⟨by decide +kernel, rfl⟩
theorem d_Mod_parted_0 : zd_k b_Mod_parted "SameTuesdayModel" 0 0 1 := Or.inl ⟨0, by decide +kernel, by decide, rfl⟩
theorem d_Mod_parted_1 : zd_l .istore_n .istore b_Mod_parted 1 2 2 := Or.inl ⟨2, rfl, by decide +kernel, rfl⟩
theorem d_Mod_parted_2 : zd_k b_Mod_parted "SameTuesdayModel" 2 0 3 := Or.inl ⟨0, by decide +kernel, by decide, rfl⟩
theorem d_Mod_parted_3 : zd_l .istore_n .istore b_Mod_parted 3 3 4 := Or.inl ⟨3, rfl, by decide +kernel, rfl⟩
theorem d_Mod_parted_4 : zd_k b_Mod_parted "SameTuesdayModel" 4 0 5 := Or.inl ⟨0, by decide +kernel, by decide, rfl⟩
theorem d_Mod_parted_5 : zd_l .istore_n .istore b_Mod_parted 5 4 7 := Or.inr ⟨by decide +kernel, rfl⟩
theorem d_Mod_parted_7 : zd_l .iload_n .iload b_Mod_parted 7 4 9 := Or.inr ⟨by decide +kernel, rfl⟩
theorem d_Mod_parted_9 : zd_k b_Mod_parted "SameTuesdayModel" 9 64 11 := Or.inr (Or.inl ⟨64, by decide +kernel, by decide, rfl⟩)
theorem d_Mod_parted_11 : zd_b b_Mod_parted 11 (.if_icmp .ge) 14 63 := ⟨52, by decide +kernel, by decide, rfl⟩
theorem d_Mod_parted_14 : zd_l .aload_n .aload b_Mod_parted 14 0 15 := Or.inl ⟨0, rfl, by decide +kernel, rfl⟩
theorem d_Mod_parted_15 : zd_l .iload_n .iload b_Mod_parted 15 4 17 := Or.inr ⟨by decide +kernel, rfl⟩
theorem d_Mod_parted_17 : zd b_Mod_parted 17 (.invokevirtual 219) 3 20 := ⟨by decide +kernel, rfl⟩
theorem d_Mod_parted_20 : zd_b b_Mod_parted 20 (.ifCond .eq) 23 57 := ⟨37, by decide +kernel, by decide, rfl⟩
theorem d_Mod_parted_23 : zd_l .iload_n .iload b_Mod_parted 23 2 24 := Or.inl ⟨2, rfl, by decide +kernel, rfl⟩
theorem d_Mod_parted_24 : zd_l .iload_n .iload b_Mod_parted 24 4 26 := Or.inr ⟨by decide +kernel, rfl⟩
theorem d_Mod_parted_26 : zd_l .iload_n .iload b_Mod_parted 26 1 27 := Or.inl ⟨1, rfl, by decide +kernel, rfl⟩
theorem d_Mod_parted_27 : zd_k b_Mod_parted "SameTuesdayModel" 27 (-1) 28 := Or.inl ⟨(-1), by decide +kernel, by decide, rfl⟩
theorem d_Mod_parted_28 : zd b_Mod_parted 28 .ixor 1 29 := ⟨by decide +kernel, rfl⟩
theorem d_Mod_parted_29 : zd b_Mod_parted 29 .iand 1 30 := ⟨by decide +kernel, rfl⟩
theorem d_Mod_parted_30 : zd_b b_Mod_parted 30 (.ifCond .ne) 33 37 := ⟨7, by decide +kernel, by decide, rfl⟩
theorem d_Mod_parted_33 : zd_k b_Mod_parted "SameTuesdayModel" 33 1 34 := Or.inl ⟨1, by decide +kernel, by decide, rfl⟩
theorem d_Mod_parted_34 : zd_b b_Mod_parted 34 .goto 37 38 := ⟨4, by decide +kernel, by decide, rfl⟩
theorem d_Mod_parted_37 : zd_k b_Mod_parted "SameTuesdayModel" 37 0 38 := Or.inl ⟨0, by decide +kernel, by decide, rfl⟩
theorem d_Mod_parted_38 : zd b_Mod_parted 38 .iadd 1 39 := ⟨by decide +kernel, rfl⟩
theorem d_Mod_parted_39 : zd_l .istore_n .istore b_Mod_parted 39 2 40 := Or.inl ⟨2, rfl, by decide +kernel, rfl⟩
theorem d_Mod_parted_40 : zd_l .iload_n .iload b_Mod_parted 40 3 41 := Or.inl ⟨3, rfl, by decide +kernel, rfl⟩
theorem d_Mod_parted_41 : zd_l .iload_n .iload b_Mod_parted 41 4 43 := Or.inr ⟨by decide +kernel, rfl⟩
theorem d_Mod_parted_43 : zd_l .iload_n .iload b_Mod_parted 43 1 44 := Or.inl ⟨1, rfl, by decide +kernel, rfl⟩
theorem d_Mod_parted_44 : zd_k b_Mod_parted "SameTuesdayModel" 44 (-1) 45 := Or.inl ⟨(-1), by decide +kernel, by decide, rfl⟩
theorem d_Mod_parted_45 : zd b_Mod_parted 45 .ixor 1 46 := ⟨by decide +kernel, rfl⟩
theorem d_Mod_parted_46 : zd b_Mod_parted 46 .iand 1 47 := ⟨by decide +kernel, rfl⟩
theorem d_Mod_parted_47 : zd_b b_Mod_parted 47 (.ifCond .ne) 50 54 := ⟨7, by decide +kernel, by decide, rfl⟩
theorem d_Mod_parted_50 : zd_k b_Mod_parted "SameTuesdayModel" 50 0 51 := Or.inl ⟨0, by decide +kernel, by decide, rfl⟩
theorem d_Mod_parted_51 : zd_b b_Mod_parted 51 .goto 54 55 := ⟨4, by decide +kernel, by decide, rfl⟩
theorem d_Mod_parted_54 : zd_k b_Mod_parted "SameTuesdayModel" 54 1 55 := Or.inl ⟨1, by decide +kernel, by decide, rfl⟩
theorem d_Mod_parted_55 : zd b_Mod_parted 55 .iadd 1 56 := ⟨by decide +kernel, rfl⟩
theorem d_Mod_parted_56 : zd_l .istore_n .istore b_Mod_parted 56 3 57 := Or.inl ⟨3, rfl, by decide +kernel, rfl⟩
theorem d_Mod_parted_57 : zd_i b_Mod_parted 57 4 1 1 60 := ⟨by decide +kernel, by decide, rfl⟩
theorem d_Mod_parted_60 : zd_b b_Mod_parted 60 .goto 63 7 := ⟨(-53), by decide +kernel, by decide, rfl⟩
theorem d_Mod_parted_63 : zd_l .iload_n .iload b_Mod_parted 63 2 64 := Or.inl ⟨2, rfl, by decide +kernel, rfl⟩
theorem d_Mod_parted_64 : zd_l .iload_n .iload b_Mod_parted 64 3 65 := Or.inl ⟨3, rfl, by decide +kernel, rfl⟩
theorem d_Mod_parted_65 : zd_b b_Mod_parted 65 (.if_icmp .ge) 68 72 := ⟨7, by decide +kernel, by decide, rfl⟩
theorem d_Mod_parted_68 : zd_l .iload_n .iload b_Mod_parted 68 2 69 := Or.inl ⟨2, rfl, by decide +kernel, rfl⟩
theorem d_Mod_parted_69 : zd_b b_Mod_parted 69 .goto 72 73 := ⟨4, by decide +kernel, by decide, rfl⟩
theorem d_Mod_parted_72 : zd_l .iload_n .iload b_Mod_parted 72 3 73 := Or.inl ⟨3, rfl, by decide +kernel, rfl⟩
theorem d_Mod_parted_73 : zd b_Mod_parted 73 .ireturn 1 74 := ⟨by decide +kernel, rfl⟩
theorem d_Mod_next_0 : zd_l .iload_n .iload b_Mod_next 0 1 1 := Or.inl ⟨1, rfl, by decide +kernel, rfl⟩
theorem d_Mod_next_1 : zd_k b_Mod_next "SameTuesdayModel" 1 0 2 := Or.inl ⟨0, by decide +kernel, by decide, rfl⟩
theorem d_Mod_next_2 : zd_k b_Mod_next "SameTuesdayModel" 2 1 3 := Or.inl ⟨1, by decide +kernel, by decide, rfl⟩
theorem d_Mod_next_3 : zd b_Mod_next 3 (.invokestatic 83) 3 6 := ⟨by decide +kernel, rfl⟩
theorem d_Mod_next_6 : zd_b b_Mod_next 6 (.ifCond .ne) 9 12 := ⟨6, by decide +kernel, by decide, rfl⟩
theorem d_Mod_next_9 : zd_k b_Mod_next "SameTuesdayModel" 9 (-2) 11 := Or.inr (Or.inl ⟨(-2), by decide +kernel, by decide, rfl⟩)
theorem d_Mod_next_11 : zd b_Mod_next 11 .ireturn 1 12 := ⟨by decide +kernel, rfl⟩
theorem d_Mod_next_12 : zd_l .aload_n .aload b_Mod_next 12 0 13 := Or.inl ⟨0, rfl, by decide +kernel, rfl⟩
theorem d_Mod_next_13 : zd b_Mod_next 13 (.getfield 87) 3 16 := ⟨by decide +kernel, rfl⟩
theorem d_Mod_next_16 : zd_b b_Mod_next 16 (.ifCond .ne) 19 22 := ⟨6, by decide +kernel, by decide, rfl⟩
theorem d_Mod_next_19 : zd_k b_Mod_next "SameTuesdayModel" 19 (-3) 21 := Or.inr (Or.inl ⟨(-3), by decide +kernel, by decide, rfl⟩)
theorem d_Mod_next_21 : zd b_Mod_next 21 .ireturn 1 22 := ⟨by decide +kernel, rfl⟩
theorem d_Mod_next_22 : zd_l .aload_n .aload b_Mod_next 22 0 23 := Or.inl ⟨0, rfl, by decide +kernel, rfl⟩
theorem d_Mod_next_23 : zd_k b_Mod_next "SameTuesdayModel" 23 60 25 := Or.inr (Or.inl ⟨60, by decide +kernel, by decide, rfl⟩)
theorem d_Mod_next_25 : zd b_Mod_next 25 (.invokevirtual 213) 3 28 := ⟨by decide +kernel, rfl⟩
theorem d_Mod_next_28 : zd_k b_Mod_next "SameTuesdayModel" 28 (-9) 30 := Or.inr (Or.inl ⟨(-9), by decide +kernel, by decide, rfl⟩)
theorem d_Mod_next_30 : zd_l .istore_n .istore b_Mod_next 30 2 31 := Or.inl ⟨2, rfl, by decide +kernel, rfl⟩
theorem d_Mod_next_31 : zd_k b_Mod_next "SameTuesdayModel" 31 0 32 := Or.inl ⟨0, by decide +kernel, by decide, rfl⟩
theorem d_Mod_next_32 : zd_l .istore_n .istore b_Mod_next 32 3 33 := Or.inl ⟨3, rfl, by decide +kernel, rfl⟩
theorem d_Mod_next_33 : zd_k b_Mod_next "SameTuesdayModel" 33 0 34 := Or.inl ⟨0, by decide +kernel, by decide, rfl⟩
theorem d_Mod_next_34 : zd_l .istore_n .istore b_Mod_next 34 4 36 := Or.inr ⟨by decide +kernel, rfl⟩
theorem d_Mod_next_36 : zd_l .iload_n .iload b_Mod_next 36 4 38 := Or.inr ⟨by decide +kernel, rfl⟩
theorem d_Mod_next_38 : zd_k b_Mod_next "SameTuesdayModel" 38 64 40 := Or.inr (Or.inl ⟨64, by decide +kernel, by decide, rfl⟩)
theorem d_Mod_next_40 : zd_b b_Mod_next 40 (.if_icmp .ge) 43 85 := ⟨45, by decide +kernel, by decide, rfl⟩
theorem d_Mod_next_43 : zd_l .aload_n .aload b_Mod_next 43 0 44 := Or.inl ⟨0, rfl, by decide +kernel, rfl⟩
theorem d_Mod_next_44 : zd b_Mod_next 44 (.getfield 72) 3 47 := ⟨by decide +kernel, rfl⟩
theorem d_Mod_next_47 : zd_l .iload_n .iload b_Mod_next 47 4 49 := Or.inr ⟨by decide +kernel, rfl⟩
theorem d_Mod_next_49 : zd b_Mod_next 49 .baload 1 50 := ⟨by decide +kernel, rfl⟩
theorem d_Mod_next_50 : zd_b b_Mod_next 50 (.ifCond .eq) 53 79 := ⟨29, by decide +kernel, by decide, rfl⟩
theorem d_Mod_next_53 : zd_l .iload_n .iload b_Mod_next 53 2 54 := Or.inl ⟨2, rfl, by decide +kernel, rfl⟩
theorem d_Mod_next_54 : zd_k b_Mod_next "SameTuesdayModel" 54 (-9) 56 := Or.inr (Or.inl ⟨(-9), by decide +kernel, by decide, rfl⟩)
theorem d_Mod_next_56 : zd_b b_Mod_next 56 (.if_icmp .eq) 59 69 := ⟨13, by decide +kernel, by decide, rfl⟩
theorem d_Mod_next_59 : zd_l .aload_n .aload b_Mod_next 59 0 60 := Or.inl ⟨0, rfl, by decide +kernel, rfl⟩
theorem d_Mod_next_60 : zd_l .iload_n .iload b_Mod_next 60 4 62 := Or.inr ⟨by decide +kernel, rfl⟩
theorem d_Mod_next_62 : zd b_Mod_next 62 (.invokevirtual 225) 3 65 := ⟨by decide +kernel, rfl⟩
theorem d_Mod_next_65 : zd_l .iload_n .iload b_Mod_next 65 3 66 := Or.inl ⟨3, rfl, by decide +kernel, rfl⟩
theorem d_Mod_next_66 : zd_b b_Mod_next 66 (.if_icmp .le) 69 79 := ⟨13, by decide +kernel, by decide, rfl⟩
theorem d_Mod_next_69 : zd_l .iload_n .iload b_Mod_next 69 4 71 := Or.inr ⟨by decide +kernel, rfl⟩
theorem d_Mod_next_71 : zd_l .istore_n .istore b_Mod_next 71 2 72 := Or.inl ⟨2, rfl, by decide +kernel, rfl⟩
theorem d_Mod_next_72 : zd_l .aload_n .aload b_Mod_next 72 0 73 := Or.inl ⟨0, rfl, by decide +kernel, rfl⟩
theorem d_Mod_next_73 : zd_l .iload_n .iload b_Mod_next 73 4 75 := Or.inr ⟨by decide +kernel, rfl⟩
theorem d_Mod_next_75 : zd b_Mod_next 75 (.invokevirtual 225) 3 78 := ⟨by decide +kernel, rfl⟩
theorem d_Mod_next_78 : zd_l .istore_n .istore b_Mod_next 78 3 79 := Or.inl ⟨3, rfl, by decide +kernel, rfl⟩
theorem d_Mod_next_79 : zd_i b_Mod_next 79 4 1 1 82 := ⟨by decide +kernel, by decide, rfl⟩
theorem d_Mod_next_82 : zd_b b_Mod_next 82 .goto 85 36 := ⟨(-46), by decide +kernel, by decide, rfl⟩
theorem d_Mod_next_85 : zd_l .iload_n .iload b_Mod_next 85 1 86 := Or.inl ⟨1, rfl, by decide +kernel, rfl⟩
theorem d_Mod_next_86 : zd_b b_Mod_next 86 (.ifCond .ne) 89 93 := ⟨7, by decide +kernel, by decide, rfl⟩
theorem d_Mod_next_89 : zd_l .iload_n .iload b_Mod_next 89 2 90 := Or.inl ⟨2, rfl, by decide +kernel, rfl⟩
theorem d_Mod_next_90 : zd_b b_Mod_next 90 .goto 93 94 := ⟨4, by decide +kernel, by decide, rfl⟩
theorem d_Mod_next_93 : zd_l .iload_n .iload b_Mod_next 93 3 94 := Or.inl ⟨3, rfl, by decide +kernel, rfl⟩
theorem d_Mod_next_94 : zd b_Mod_next 94 .ireturn 1 95 := ⟨by decide +kernel, rfl⟩
theorem d_Mod_others_0 : zd_l .aload_n .aload b_Mod_others 0 0 1 := Or.inl ⟨0, rfl, by decide +kernel, rfl⟩
theorem d_Mod_others_1 : zd_k b_Mod_others "SameTuesdayModel" 1 0 2 := Or.inl ⟨0, by decide +kernel, by decide, rfl⟩
theorem d_Mod_others_2 : zd b_Mod_others 2 (.putfield 78) 3 5 := ⟨by decide +kernel, rfl⟩
theorem d_Mod_others_5 : zd_l .iload_n .iload b_Mod_others 5 2 6 := Or.inl ⟨2, rfl, by decide +kernel, rfl⟩
theorem d_Mod_others_6 : zd_k b_Mod_others "SameTuesdayModel" 6 (-1) 7 := Or.inl ⟨(-1), by decide +kernel, by decide, rfl⟩
theorem d_Mod_others_7 : zd_b b_Mod_others 7 (.if_icmp .lt) 10 17 := ⟨10, by decide +kernel, by decide, rfl⟩
theorem d_Mod_others_10 : zd_l .iload_n .iload b_Mod_others 10 3 11 := Or.inl ⟨3, rfl, by decide +kernel, rfl⟩
theorem d_Mod_others_11 : zd b_Mod_others 11 (.invokestatic 96) 3 14 := ⟨by decide +kernel, rfl⟩
theorem d_Mod_others_14 : zd_b b_Mod_others 14 (.ifCond .ne) 17 19 := ⟨5, by decide +kernel, by decide, rfl⟩
theorem d_Mod_others_17 : zd_k b_Mod_others "SameTuesdayModel" 17 (-1) 18 := Or.inl ⟨(-1), by decide +kernel, by decide, rfl⟩
theorem d_Mod_others_18 : zd b_Mod_others 18 .ireturn 1 19 := ⟨by decide +kernel, rfl⟩
theorem d_Mod_others_19 : zd_l .iload_n .iload b_Mod_others 19 1 20 := Or.inl ⟨1, rfl, by decide +kernel, rfl⟩
theorem d_Mod_others_20 : zd b_Mod_others 20 (.invokestatic 210) 3 23 := ⟨by decide +kernel, rfl⟩
theorem d_Mod_others_23 : zd_b b_Mod_others 23 (.ifCond .eq) 26 36 := ⟨13, by decide +kernel, by decide, rfl⟩
theorem d_Mod_others_26 : zd_l .iload_n .iload b_Mod_others 26 4 28 := Or.inr ⟨by decide +kernel, rfl⟩
theorem d_Mod_others_28 : zd_l .iload_n .iload b_Mod_others 28 6 30 := Or.inr ⟨by decide +kernel, rfl⟩
theorem d_Mod_others_30 : zd b_Mod_others 30 (.invokestatic 175) 3 33 := ⟨by decide +kernel, rfl⟩
theorem d_Mod_others_33 : zd_b b_Mod_others 33 (.ifCond .ne) 36 39 := ⟨6, by decide +kernel, by decide, rfl⟩
theorem d_Mod_others_36 : zd_k b_Mod_others "SameTuesdayModel" 36 (-2) 38 := Or.inr (Or.inl ⟨(-2), by decide +kernel, by decide, rfl⟩)
theorem d_Mod_others_38 : zd b_Mod_others 38 .ireturn 1 39 := ⟨by decide +kernel, rfl⟩
theorem d_Mod_others_39 : zd_l .aload_n .aload b_Mod_others 39 0 40 := Or.inl ⟨0, rfl, by decide +kernel, rfl⟩
theorem d_Mod_others_40 : zd_l .iload_n .iload b_Mod_others 40 3 41 := Or.inl ⟨3, rfl, by decide +kernel, rfl⟩
theorem d_Mod_others_41 : zd_l .iload_n .iload b_Mod_others 41 4 43 := Or.inr ⟨by decide +kernel, rfl⟩
theorem d_Mod_others_43 : zd_l .iload_n .iload b_Mod_others 43 5 45 := Or.inr ⟨by decide +kernel, rfl⟩
theorem d_Mod_others_45 : zd_l .iload_n .iload b_Mod_others 45 6 47 := Or.inr ⟨by decide +kernel, rfl⟩
theorem d_Mod_others_47 : zd b_Mod_others 47 (.invokevirtual 178) 3 50 := ⟨by decide +kernel, rfl⟩
theorem d_Mod_others_50 : zd_l .istore_n .istore b_Mod_others 50 7 52 := Or.inr ⟨by decide +kernel, rfl⟩
theorem d_Mod_others_52 : zd_l .iload_n .iload b_Mod_others 52 7 54 := Or.inr ⟨by decide +kernel, rfl⟩
theorem d_Mod_others_54 : zd_b b_Mod_others 54 (.ifCond .eq) 57 60 := ⟨6, by decide +kernel, by decide, rfl⟩
theorem d_Mod_others_57 : zd_l .iload_n .iload b_Mod_others 57 7 59 := Or.inr ⟨by decide +kernel, rfl⟩
theorem d_Mod_others_59 : zd b_Mod_others 59 .ireturn 1 60 := ⟨by decide +kernel, rfl⟩
theorem d_Mod_others_60 : zd_k b_Mod_others "SameTuesdayModel" 60 0 61 := Or.inl ⟨0, by decide +kernel, by decide, rfl⟩
theorem d_Mod_others_61 : zd_l .istore_n .istore b_Mod_others 61 8 63 := Or.inr ⟨by decide +kernel, rfl⟩
theorem d_Mod_others_63 : zd_k b_Mod_others "SameTuesdayModel" 63 (-9) 65 := Or.inr (Or.inl ⟨(-9), by decide +kernel, by decide, rfl⟩)
theorem d_Mod_others_65 : zd_l .istore_n .istore b_Mod_others 65 9 67 := Or.inr ⟨by decide +kernel, rfl⟩
theorem d_Mod_others_67 : zd_k b_Mod_others "SameTuesdayModel" 67 0 68 := Or.inl ⟨0, by decide +kernel, by decide, rfl⟩
theorem d_Mod_others_68 : zd_l .istore_n .istore b_Mod_others 68 10 70 := Or.inr ⟨by decide +kernel, rfl⟩
theorem d_Mod_others_70 : zd_l .iload_n .iload b_Mod_others 70 10 72 := Or.inr ⟨by decide +kernel, rfl⟩
theorem d_Mod_others_72 : zd_l .aload_n .aload b_Mod_others 72 0 73 := Or.inl ⟨0, rfl, by decide +kernel, rfl⟩
theorem d_Mod_others_73 : zd b_Mod_others 73 (.getfield 120) 3 76 := ⟨by decide +kernel, rfl⟩
theorem d_Mod_others_76 : zd_b b_Mod_others 76 (.if_icmp .ge) 79 155 := ⟨79, by decide +kernel, by decide, rfl⟩
theorem d_Mod_others_79 : zd_k b_Mod_others "SameTuesdayModel" 79 0 80 := Or.inl ⟨0, by decide +kernel, by decide, rfl⟩
theorem d_Mod_others_80 : zd_l .istore_n .istore b_Mod_others 80 11 82 := Or.inr ⟨by decide +kernel, rfl⟩
theorem d_Mod_others_82 : zd_l .iload_n .iload b_Mod_others 82 11 84 := Or.inr ⟨by decide +kernel, rfl⟩
theorem d_Mod_others_84 : zd_l .aload_n .aload b_Mod_others 84 0 85 := Or.inl ⟨0, rfl, by decide +kernel, rfl⟩
theorem d_Mod_others_85 : zd b_Mod_others 85 (.getfield 90) 3 88 := ⟨by decide +kernel, rfl⟩
theorem d_Mod_others_88 : zd_b b_Mod_others 88 (.if_icmp .ge) 91 149 := ⟨61, by decide +kernel, by decide, rfl⟩
theorem d_Mod_others_91 : zd_l .aload_n .aload b_Mod_others 91 0 92 := Or.inl ⟨0, rfl, by decide +kernel, rfl⟩
theorem d_Mod_others_92 : zd_l .iload_n .iload b_Mod_others 92 11 94 := Or.inr ⟨by decide +kernel, rfl⟩
theorem d_Mod_others_94 : zd b_Mod_others 94 (.putfield 59) 3 97 := ⟨by decide +kernel, rfl⟩
theorem d_Mod_others_97 : zd_l .aload_n .aload b_Mod_others 97 0 98 := Or.inl ⟨0, rfl, by decide +kernel, rfl⟩
theorem d_Mod_others_98 : zd_l .iload_n .iload b_Mod_others 98 10 100 := Or.inr ⟨by decide +kernel, rfl⟩
theorem d_Mod_others_100 : zd b_Mod_others 100 (.putfield 163) 3 103 := ⟨by decide +kernel, rfl⟩
theorem d_Mod_others_103 : zd_l .aload_n .aload b_Mod_others 103 0 104 := Or.inl ⟨0, rfl, by decide +kernel, rfl⟩
theorem d_Mod_others_104 : zd_k b_Mod_others "SameTuesdayModel" 104 0 105 := Or.inl ⟨0, by decide +kernel, by decide, rfl⟩
theorem d_Mod_others_105 : zd b_Mod_others 105 (.invokevirtual 181) 3 108 := ⟨by decide +kernel, rfl⟩
theorem d_Mod_others_108 : zd_l .iload_n .iload b_Mod_others 108 1 109 := Or.inl ⟨1, rfl, by decide +kernel, rfl⟩
theorem d_Mod_others_109 : zd_b b_Mod_others 109 (.if_icmp .ne) 112 143 := ⟨34, by decide +kernel, by decide, rfl⟩
theorem d_Mod_others_112 : zd_l .aload_n .aload b_Mod_others 112 0 113 := Or.inl ⟨0, rfl, by decide +kernel, rfl⟩
theorem d_Mod_others_113 : zd b_Mod_others 113 (.getfield 152) 3 116 := ⟨by decide +kernel, rfl⟩
theorem d_Mod_others_116 : zd_b b_Mod_others 116 (.ifCond .eq) 119 143 := ⟨27, by decide +kernel, by decide, rfl⟩
theorem d_Mod_others_119 : zd_l .iload_n .iload b_Mod_others 119 8 121 := Or.inr ⟨by decide +kernel, rfl⟩
theorem d_Mod_others_121 : zd_l .iload_n .iload b_Mod_others 121 2 122 := Or.inl ⟨2, rfl, by decide +kernel, rfl⟩
theorem d_Mod_others_122 : zd_b b_Mod_others 122 (.if_icmp .ne) 125 136 := ⟨14, by decide +kernel, by decide, rfl⟩
theorem d_Mod_others_125 : zd_k b_Mod_others "SameTuesdayModel" 125 10 127 := Or.inr (Or.inl ⟨10, by decide +kernel, by decide, rfl⟩)
theorem d_Mod_others_127 : zd_l .iload_n .iload b_Mod_others 127 10 129 := Or.inr ⟨by decide +kernel, rfl⟩
theorem d_Mod_others_129 : zd b_Mod_others 129 .imul 1 130 := ⟨by decide +kernel, rfl⟩
theorem d_Mod_others_130 : zd_l .iload_n .iload b_Mod_others 130 11 132 := Or.inr ⟨by decide +kernel, rfl⟩
theorem d_Mod_others_132 : zd b_Mod_others 132 .iadd 1 133 := ⟨by decide +kernel, rfl⟩
theorem d_Mod_others_133 : zd_b b_Mod_others 133 .goto 136 138 := ⟨5, by decide +kernel, by decide, rfl⟩
theorem d_Mod_others_136 : zd_l .iload_n .iload b_Mod_others 136 9 138 := Or.inr ⟨by decide +kernel, rfl⟩
theorem d_Mod_others_138 : zd_l .istore_n .istore b_Mod_others 138 9 140 := Or.inr ⟨by decide +kernel, rfl⟩
theorem d_Mod_others_140 : zd_i b_Mod_others 140 8 1 1 143 := ⟨by decide +kernel, by decide, rfl⟩
theorem d_Mod_others_143 : zd_i b_Mod_others 143 11 1 1 146 := ⟨by decide +kernel, by decide, rfl⟩
theorem d_Mod_others_146 : zd_b b_Mod_others 146 .goto 149 82 := ⟨(-64), by decide +kernel, by decide, rfl⟩
theorem d_Mod_others_149 : zd_i b_Mod_others 149 10 1 1 152 := ⟨by decide +kernel, by decide, rfl⟩
theorem d_Mod_others_152 : zd_b b_Mod_others 152 .goto 155 70 := ⟨(-82), by decide +kernel, by decide, rfl⟩
theorem d_Mod_others_155 : zd_l .aload_n .aload b_Mod_others 155 0 156 := Or.inl ⟨0, rfl, by decide +kernel, rfl⟩
theorem d_Mod_others_156 : zd_k b_Mod_others "SameTuesdayModel" 156 (-9) 158 := Or.inr (Or.inl ⟨(-9), by decide +kernel, by decide, rfl⟩)
theorem d_Mod_others_158 : zd b_Mod_others 158 (.putfield 59) 3 161 := ⟨by decide +kernel, rfl⟩
theorem d_Mod_others_161 : zd_l .iload_n .iload b_Mod_others 161 2 162 := Or.inl ⟨2, rfl, by decide +kernel, rfl⟩
theorem d_Mod_others_162 : zd_k b_Mod_others "SameTuesdayModel" 162 (-1) 163 := Or.inl ⟨(-1), by decide +kernel, by decide, rfl⟩
theorem d_Mod_others_163 : zd_b b_Mod_others 163 (.if_icmp .ne) 166 171 := ⟨8, by decide +kernel, by decide, rfl⟩
theorem d_Mod_others_166 : zd_l .iload_n .iload b_Mod_others 166 8 168 := Or.inr ⟨by decide +kernel, rfl⟩
theorem d_Mod_others_168 : zd_b b_Mod_others 168 .goto 171 173 := ⟨5, by decide +kernel, by decide, rfl⟩
theorem d_Mod_others_171 : zd_l .iload_n .iload b_Mod_others 171 9 173 := Or.inr ⟨by decide +kernel, rfl⟩
theorem d_Mod_others_173 : zd b_Mod_others 173 .ireturn 1 174 := ⟨by decide +kernel, rfl⟩
theorem d_Mod_inLeastTerms_0 : zd_l .lload_n .lload b_Mod_inLeastTerms 0 0 1 := Or.inl ⟨0, rfl, by decide +kernel, rfl⟩
theorem d_Mod_inLeastTerms_1 : zd_l .lstore_n .lstore b_Mod_inLeastTerms 1 5 3 := Or.inr ⟨by decide +kernel, rfl⟩
theorem d_Mod_inLeastTerms_3 : zd_l .lload_n .lload b_Mod_inLeastTerms 3 2 4 := Or.inl ⟨2, rfl, by decide +kernel, rfl⟩
theorem d_Mod_inLeastTerms_4 : zd_l .lstore_n .lstore b_Mod_inLeastTerms 4 7 6 := Or.inr ⟨by decide +kernel, rfl⟩
theorem d_Mod_inLeastTerms_6 : zd_l .lload_n .lload b_Mod_inLeastTerms 6 7 8 := Or.inr ⟨by decide +kernel, rfl⟩
theorem d_Mod_inLeastTerms_8 : zd_kl b_Mod_inLeastTerms "SameTuesdayModel" 8 0 9 := Or.inl ⟨0, by decide +kernel, by decide, rfl⟩
theorem d_Mod_inLeastTerms_9 : zd b_Mod_inLeastTerms 9 .lcmp 1 10 := ⟨by decide +kernel, rfl⟩
theorem d_Mod_inLeastTerms_10 : zd_b b_Mod_inLeastTerms 10 (.ifCond .eq) 13 31 := ⟨21, by decide +kernel, by decide, rfl⟩
theorem d_Mod_inLeastTerms_13 : zd_l .lload_n .lload b_Mod_inLeastTerms 13 5 15 := Or.inr ⟨by decide +kernel, rfl⟩
theorem d_Mod_inLeastTerms_15 : zd_l .lload_n .lload b_Mod_inLeastTerms 15 7 17 := Or.inr ⟨by decide +kernel, rfl⟩
theorem d_Mod_inLeastTerms_17 : zd b_Mod_inLeastTerms 17 .lrem 1 18 := ⟨by decide +kernel, rfl⟩
theorem d_Mod_inLeastTerms_18 : zd_l .lstore_n .lstore b_Mod_inLeastTerms 18 9 20 := Or.inr ⟨by decide +kernel, rfl⟩
theorem d_Mod_inLeastTerms_20 : zd_l .lload_n .lload b_Mod_inLeastTerms 20 7 22 := Or.inr ⟨by decide +kernel, rfl⟩
theorem d_Mod_inLeastTerms_22 : zd_l .lstore_n .lstore b_Mod_inLeastTerms 22 5 24 := Or.inr ⟨by decide +kernel, rfl⟩
theorem d_Mod_inLeastTerms_24 : zd_l .lload_n .lload b_Mod_inLeastTerms 24 9 26 := Or.inr ⟨by decide +kernel, rfl⟩
theorem d_Mod_inLeastTerms_26 : zd_l .lstore_n .lstore b_Mod_inLeastTerms 26 7 28 := Or.inr ⟨by decide +kernel, rfl⟩
theorem d_Mod_inLeastTerms_28 : zd_b b_Mod_inLeastTerms 28 .goto 31 6 := ⟨(-22), by decide +kernel, by decide, rfl⟩
theorem d_Mod_inLeastTerms_31 : zd_l .iload_n .iload b_Mod_inLeastTerms 31 4 33 := Or.inr ⟨by decide +kernel, rfl⟩
theorem d_Mod_inLeastTerms_33 : zd_b b_Mod_inLeastTerms 33 (.ifCond .ne) 36 43 := ⟨10, by decide +kernel, by decide, rfl⟩
theorem d_Mod_inLeastTerms_36 : zd_l .lload_n .lload b_Mod_inLeastTerms 36 0 37 := Or.inl ⟨0, rfl, by decide +kernel, rfl⟩
theorem d_Mod_inLeastTerms_37 : zd_l .lload_n .lload b_Mod_inLeastTerms 37 5 39 := Or.inr ⟨by decide +kernel, rfl⟩
theorem d_Mod_inLeastTerms_39 : zd b_Mod_inLeastTerms 39 .ldiv 1 40 := ⟨by decide +kernel, rfl⟩
theorem d_Mod_inLeastTerms_40 : zd_b b_Mod_inLeastTerms 40 .goto 43 47 := ⟨7, by decide +kernel, by decide, rfl⟩
theorem d_Mod_inLeastTerms_43 : zd_l .lload_n .lload b_Mod_inLeastTerms 43 2 44 := Or.inl ⟨2, rfl, by decide +kernel, rfl⟩
theorem d_Mod_inLeastTerms_44 : zd_l .lload_n .lload b_Mod_inLeastTerms 44 5 46 := Or.inr ⟨by decide +kernel, rfl⟩
theorem d_Mod_inLeastTerms_46 : zd b_Mod_inLeastTerms 46 .ldiv 1 47 := ⟨by decide +kernel, rfl⟩
theorem d_Mod_inLeastTerms_47 : zd b_Mod_inLeastTerms 47 .lreturn 1 48 := ⟨by decide +kernel, rfl⟩
theorem d_Mod_odds_0 : zd_l .aload_n .aload b_Mod_odds 0 0 1 := Or.inl ⟨0, rfl, by decide +kernel, rfl⟩
theorem d_Mod_odds_1 : zd_k b_Mod_odds "SameTuesdayModel" 1 0 2 := Or.inl ⟨0, by decide +kernel, by decide, rfl⟩
theorem d_Mod_odds_2 : zd b_Mod_odds 2 (.putfield 78) 3 5 := ⟨by decide +kernel, rfl⟩
theorem d_Mod_odds_5 : zd_l .iload_n .iload b_Mod_odds 5 1 6 := Or.inl ⟨1, rfl, by decide +kernel, rfl⟩
theorem d_Mod_odds_6 : zd b_Mod_odds 6 (.invokestatic 210) 3 9 := ⟨by decide +kernel, rfl⟩
theorem d_Mod_odds_9 : zd_b b_Mod_odds 9 (.ifCond .eq) 12 38 := ⟨29, by decide +kernel, by decide, rfl⟩
theorem d_Mod_odds_12 : zd_l .iload_n .iload b_Mod_odds 12 6 14 := Or.inr ⟨by decide +kernel, rfl⟩
theorem d_Mod_odds_14 : zd_k b_Mod_odds "SameTuesdayModel" 14 0 15 := Or.inl ⟨0, by decide +kernel, by decide, rfl⟩
theorem d_Mod_odds_15 : zd_k b_Mod_odds "SameTuesdayModel" 15 1 16 := Or.inl ⟨1, by decide +kernel, by decide, rfl⟩
theorem d_Mod_odds_16 : zd b_Mod_odds 16 (.invokestatic 83) 3 19 := ⟨by decide +kernel, rfl⟩
theorem d_Mod_odds_19 : zd_b b_Mod_odds 19 (.ifCond .eq) 22 38 := ⟨19, by decide +kernel, by decide, rfl⟩
theorem d_Mod_odds_22 : zd_l .iload_n .iload b_Mod_odds 22 2 23 := Or.inl ⟨2, rfl, by decide +kernel, rfl⟩
theorem d_Mod_odds_23 : zd b_Mod_odds 23 (.invokestatic 96) 3 26 := ⟨by decide +kernel, rfl⟩
theorem d_Mod_odds_26 : zd_b b_Mod_odds 26 (.ifCond .eq) 29 38 := ⟨12, by decide +kernel, by decide, rfl⟩
theorem d_Mod_odds_29 : zd_l .iload_n .iload b_Mod_odds 29 3 30 := Or.inl ⟨3, rfl, by decide +kernel, rfl⟩
theorem d_Mod_odds_30 : zd_l .iload_n .iload b_Mod_odds 30 5 32 := Or.inr ⟨by decide +kernel, rfl⟩
theorem d_Mod_odds_32 : zd b_Mod_odds 32 (.invokestatic 175) 3 35 := ⟨by decide +kernel, rfl⟩
theorem d_Mod_odds_35 : zd_b b_Mod_odds 35 (.ifCond .ne) 38 42 := ⟨7, by decide +kernel, by decide, rfl⟩
set_option maxRecDepth 20000 in
theorem d_Mod_odds_38 : zd_kl b_Mod_odds "SameTuesdayModel" 38 (-9223372036854775808) 41 := Or.inr ⟨81, by decide +kernel, zb_mem 1213 rfl rfl, rfl⟩
theorem d_Mod_odds_41 : zd b_Mod_odds 41 .lreturn 1 42 := ⟨by decide +kernel, rfl⟩
theorem d_Mod_odds_42 : zd_l .aload_n .aload b_Mod_odds 42 0 43 := Or.inl ⟨0, rfl, by decide +kernel, rfl⟩
theorem d_Mod_odds_43 : zd_l .iload_n .iload b_Mod_odds 43 2 44 := Or.inl ⟨2, rfl, by decide +kernel, rfl⟩
theorem d_Mod_odds_44 : zd_l .iload_n .iload b_Mod_odds 44 3 45 := Or.inl ⟨3, rfl, by decide +kernel, rfl⟩
theorem d_Mod_odds_45 : zd_l .iload_n .iload b_Mod_odds 45 4 47 := Or.inr ⟨by decide +kernel, rfl⟩
theorem d_Mod_odds_47 : zd_l .iload_n .iload b_Mod_odds 47 5 49 := Or.inr ⟨by decide +kernel, rfl⟩
theorem d_Mod_odds_49 : zd b_Mod_odds 49 (.invokevirtual 178) 3 52 := ⟨by decide +kernel, rfl⟩
theorem d_Mod_odds_52 : zd_b b_Mod_odds 52 (.ifCond .eq) 55 59 := ⟨7, by decide +kernel, by decide, rfl⟩
set_option maxRecDepth 20000 in
theorem d_Mod_odds_55 : zd_kl b_Mod_odds "SameTuesdayModel" 55 (-9223372036854775808) 58 := Or.inr ⟨81, by decide +kernel, zb_mem 1213 rfl rfl, rfl⟩
theorem d_Mod_odds_58 : zd b_Mod_odds 58 .lreturn 1 59 := ⟨by decide +kernel, rfl⟩
theorem d_Mod_odds_59 : zd_k b_Mod_odds "SameTuesdayModel" 59 0 60 := Or.inl ⟨0, by decide +kernel, by decide, rfl⟩
theorem d_Mod_odds_60 : zd_l .istore_n .istore b_Mod_odds 60 7 62 := Or.inr ⟨by decide +kernel, rfl⟩
theorem d_Mod_odds_62 : zd_k b_Mod_odds "SameTuesdayModel" 62 0 63 := Or.inl ⟨0, by decide +kernel, by decide, rfl⟩
theorem d_Mod_odds_63 : zd_l .istore_n .istore b_Mod_odds 63 8 65 := Or.inr ⟨by decide +kernel, rfl⟩
theorem d_Mod_odds_65 : zd_l .iload_n .iload b_Mod_odds 65 8 67 := Or.inr ⟨by decide +kernel, rfl⟩
theorem d_Mod_odds_67 : zd_k b_Mod_odds "SameTuesdayModel" 67 1 68 := Or.inl ⟨1, by decide +kernel, by decide, rfl⟩
theorem d_Mod_odds_68 : zd_l .aload_n .aload b_Mod_odds 68 0 69 := Or.inl ⟨0, rfl, by decide +kernel, rfl⟩
theorem d_Mod_odds_69 : zd b_Mod_odds 69 (.getfield 87) 3 72 := ⟨by decide +kernel, rfl⟩
theorem d_Mod_odds_72 : zd b_Mod_odds 72 .ishl 1 73 := ⟨by decide +kernel, rfl⟩
theorem d_Mod_odds_73 : zd_b b_Mod_odds 73 (.if_icmp .ge) 76 105 := ⟨32, by decide +kernel, by decide, rfl⟩
theorem d_Mod_odds_76 : zd_l .iload_n .iload b_Mod_odds 76 7 78 := Or.inr ⟨by decide +kernel, rfl⟩
theorem d_Mod_odds_78 : zd_l .iload_n .iload b_Mod_odds 78 1 79 := Or.inl ⟨1, rfl, by decide +kernel, rfl⟩
theorem d_Mod_odds_79 : zd_l .aload_n .aload b_Mod_odds 79 0 80 := Or.inl ⟨0, rfl, by decide +kernel, rfl⟩
theorem d_Mod_odds_80 : zd_l .iload_n .iload b_Mod_odds 80 8 82 := Or.inr ⟨by decide +kernel, rfl⟩
theorem d_Mod_odds_82 : zd b_Mod_odds 82 (.invokevirtual 181) 3 85 := ⟨by decide +kernel, rfl⟩
theorem d_Mod_odds_85 : zd_k b_Mod_odds "SameTuesdayModel" 85 (-1) 86 := Or.inl ⟨(-1), by decide +kernel, by decide, rfl⟩
theorem d_Mod_odds_86 : zd b_Mod_odds 86 .ixor 1 87 := ⟨by decide +kernel, rfl⟩
theorem d_Mod_odds_87 : zd b_Mod_odds 87 .iand 1 88 := ⟨by decide +kernel, rfl⟩
theorem d_Mod_odds_88 : zd_b b_Mod_odds 88 (.ifCond .ne) 91 95 := ⟨7, by decide +kernel, by decide, rfl⟩
theorem d_Mod_odds_91 : zd_k b_Mod_odds "SameTuesdayModel" 91 1 92 := Or.inl ⟨1, by decide +kernel, by decide, rfl⟩
theorem d_Mod_odds_92 : zd_b b_Mod_odds 92 .goto 95 96 := ⟨4, by decide +kernel, by decide, rfl⟩
theorem d_Mod_odds_95 : zd_k b_Mod_odds "SameTuesdayModel" 95 0 96 := Or.inl ⟨0, by decide +kernel, by decide, rfl⟩
theorem d_Mod_odds_96 : zd b_Mod_odds 96 .iadd 1 97 := ⟨by decide +kernel, rfl⟩
theorem d_Mod_odds_97 : zd_l .istore_n .istore b_Mod_odds 97 7 99 := Or.inr ⟨by decide +kernel, rfl⟩
theorem d_Mod_odds_99 : zd_i b_Mod_odds 99 8 1 1 102 := ⟨by decide +kernel, by decide, rfl⟩
theorem d_Mod_odds_102 : zd_b b_Mod_odds 102 .goto 105 65 := ⟨(-37), by decide +kernel, by decide, rfl⟩
theorem d_Mod_odds_105 : zd_l .iload_n .iload b_Mod_odds 105 7 107 := Or.inr ⟨by decide +kernel, rfl⟩
theorem d_Mod_odds_107 : zd b_Mod_odds 107 .i2l 1 108 := ⟨by decide +kernel, rfl⟩
theorem d_Mod_odds_108 : zd_kl b_Mod_odds "SameTuesdayModel" 108 1 109 := Or.inl ⟨1, by decide +kernel, by decide, rfl⟩
theorem d_Mod_odds_109 : zd_l .aload_n .aload b_Mod_odds 109 0 110 := Or.inl ⟨0, rfl, by decide +kernel, rfl⟩
theorem d_Mod_odds_110 : zd b_Mod_odds 110 (.getfield 87) 3 113 := ⟨by decide +kernel, rfl⟩
theorem d_Mod_odds_113 : zd b_Mod_odds 113 .lshl 1 114 := ⟨by decide +kernel, rfl⟩
theorem d_Mod_odds_114 : zd_l .iload_n .iload b_Mod_odds 114 6 116 := Or.inr ⟨by decide +kernel, rfl⟩
theorem d_Mod_odds_116 : zd b_Mod_odds 116 (.invokestatic 228) 3 119 := ⟨by decide +kernel, rfl⟩
theorem d_Mod_odds_119 : zd b_Mod_odds 119 .lreturn 1 120 := ⟨by decide +kernel, rfl⟩
theorem d_Mod_sheet_0 : zd_l .aload_n .aload b_Mod_sheet 0 0 1 := Or.inl ⟨0, rfl, by decide +kernel, rfl⟩
theorem d_Mod_sheet_1 : zd_k b_Mod_sheet "SameTuesdayModel" 1 0 2 := Or.inl ⟨0, by decide +kernel, by decide, rfl⟩
theorem d_Mod_sheet_2 : zd b_Mod_sheet 2 (.putfield 78) 3 5 := ⟨by decide +kernel, rfl⟩
theorem d_Mod_sheet_5 : zd_l .iload_n .iload b_Mod_sheet 5 1 6 := Or.inl ⟨1, rfl, by decide +kernel, rfl⟩
theorem d_Mod_sheet_6 : zd b_Mod_sheet 6 (.invokestatic 96) 3 9 := ⟨by decide +kernel, rfl⟩
theorem d_Mod_sheet_9 : zd_b b_Mod_sheet 9 (.ifCond .ne) 12 14 := ⟨5, by decide +kernel, by decide, rfl⟩
theorem d_Mod_sheet_12 : zd_k b_Mod_sheet "SameTuesdayModel" 12 (-1) 13 := Or.inl ⟨(-1), by decide +kernel, by decide, rfl⟩
theorem d_Mod_sheet_13 : zd b_Mod_sheet 13 .ireturn 1 14 := ⟨by decide +kernel, rfl⟩
theorem d_Mod_sheet_14 : zd_l .iload_n .iload b_Mod_sheet 14 2 15 := Or.inl ⟨2, rfl, by decide +kernel, rfl⟩
theorem d_Mod_sheet_15 : zd b_Mod_sheet 15 (.invokestatic 100) 3 18 := ⟨by decide +kernel, rfl⟩
theorem d_Mod_sheet_18 : zd_b b_Mod_sheet 18 (.ifCond .eq) 21 27 := ⟨9, by decide +kernel, by decide, rfl⟩
theorem d_Mod_sheet_21 : zd_l .iload_n .iload b_Mod_sheet 21 3 22 := Or.inl ⟨3, rfl, by decide +kernel, rfl⟩
theorem d_Mod_sheet_22 : zd_k b_Mod_sheet "SameTuesdayModel" 22 60 24 := Or.inr (Or.inl ⟨60, by decide +kernel, by decide, rfl⟩)
theorem d_Mod_sheet_24 : zd_b b_Mod_sheet 24 (.if_icmp .le) 27 30 := ⟨6, by decide +kernel, by decide, rfl⟩
theorem d_Mod_sheet_27 : zd_k b_Mod_sheet "SameTuesdayModel" 27 (-2) 29 := Or.inr (Or.inl ⟨(-2), by decide +kernel, by decide, rfl⟩)
theorem d_Mod_sheet_29 : zd b_Mod_sheet 29 .ireturn 1 30 := ⟨by decide +kernel, rfl⟩
theorem d_Mod_sheet_30 : zd_l .iload_n .iload b_Mod_sheet 30 3 31 := Or.inl ⟨3, rfl, by decide +kernel, rfl⟩
theorem d_Mod_sheet_31 : zd_b b_Mod_sheet 31 (.ifCond .ge) 34 40 := ⟨9, by decide +kernel, by decide, rfl⟩
theorem d_Mod_sheet_34 : zd_l .aload_n .aload b_Mod_sheet 34 0 35 := Or.inl ⟨0, rfl, by decide +kernel, rfl⟩
theorem d_Mod_sheet_35 : zd_k b_Mod_sheet "SameTuesdayModel" 35 4 36 := Or.inl ⟨4, by decide +kernel, by decide, rfl⟩
theorem d_Mod_sheet_36 : zd b_Mod_sheet 36 (.invokevirtual 107) 3 39 := ⟨by decide +kernel, rfl⟩
theorem d_Mod_sheet_39 : zd b_Mod_sheet 39 .ireturn 1 40 := ⟨by decide +kernel, rfl⟩
theorem d_Mod_sheet_40 : zd_l .aload_n .aload b_Mod_sheet 40 0 41 := Or.inl ⟨0, rfl, by decide +kernel, rfl⟩
theorem d_Mod_sheet_41 : zd b_Mod_sheet 41 (.getfield 9) 3 44 := ⟨by decide +kernel, rfl⟩
theorem d_Mod_sheet_44 : zd_l .iload_n .iload b_Mod_sheet 44 1 45 := Or.inl ⟨1, rfl, by decide +kernel, rfl⟩
theorem d_Mod_sheet_45 : zd_l .iload_n .iload b_Mod_sheet 45 2 46 := Or.inl ⟨2, rfl, by decide +kernel, rfl⟩
theorem d_Mod_sheet_46 : zd b_Mod_sheet 46 .iastore 1 47 := ⟨by decide +kernel, rfl⟩
theorem d_Mod_sheet_47 : zd_l .aload_n .aload b_Mod_sheet 47 0 48 := Or.inl ⟨0, rfl, by decide +kernel, rfl⟩
theorem d_Mod_sheet_48 : zd b_Mod_sheet 48 (.getfield 13) 3 51 := ⟨by decide +kernel, rfl⟩
theorem d_Mod_sheet_51 : zd_l .iload_n .iload b_Mod_sheet 51 1 52 := Or.inl ⟨1, rfl, by decide +kernel, rfl⟩
theorem d_Mod_sheet_52 : zd_l .iload_n .iload b_Mod_sheet 52 3 53 := Or.inl ⟨3, rfl, by decide +kernel, rfl⟩
theorem d_Mod_sheet_53 : zd b_Mod_sheet 53 .iastore 1 54 := ⟨by decide +kernel, rfl⟩
theorem d_Mod_sheet_54 : zd_k b_Mod_sheet "SameTuesdayModel" 54 0 55 := Or.inl ⟨0, by decide +kernel, by decide, rfl⟩
theorem d_Mod_sheet_55 : zd_l .istore_n .istore b_Mod_sheet 55 4 57 := Or.inr ⟨by decide +kernel, rfl⟩
theorem d_Mod_sheet_57 : zd_l .iload_n .iload b_Mod_sheet 57 4 59 := Or.inr ⟨by decide +kernel, rfl⟩
theorem d_Mod_sheet_59 : zd_k b_Mod_sheet "SameTuesdayModel" 59 60 61 := Or.inr (Or.inl ⟨60, by decide +kernel, by decide, rfl⟩)
theorem d_Mod_sheet_61 : zd_b b_Mod_sheet 61 (.if_icmp .ge) 64 83 := ⟨22, by decide +kernel, by decide, rfl⟩
theorem d_Mod_sheet_64 : zd_l .aload_n .aload b_Mod_sheet 64 0 65 := Or.inl ⟨0, rfl, by decide +kernel, rfl⟩
theorem d_Mod_sheet_65 : zd b_Mod_sheet 65 (.getfield 16) 3 68 := ⟨by decide +kernel, rfl⟩
theorem d_Mod_sheet_68 : zd_k b_Mod_sheet "SameTuesdayModel" 68 60 70 := Or.inr (Or.inl ⟨60, by decide +kernel, by decide, rfl⟩)
theorem d_Mod_sheet_70 : zd_l .iload_n .iload b_Mod_sheet 70 1 71 := Or.inl ⟨1, rfl, by decide +kernel, rfl⟩
theorem d_Mod_sheet_71 : zd b_Mod_sheet 71 .imul 1 72 := ⟨by decide +kernel, rfl⟩
theorem d_Mod_sheet_72 : zd_l .iload_n .iload b_Mod_sheet 72 4 74 := Or.inr ⟨by decide +kernel, rfl⟩
theorem d_Mod_sheet_74 : zd b_Mod_sheet 74 .iadd 1 75 := ⟨by decide +kernel, rfl⟩
theorem d_Mod_sheet_75 : zd_k b_Mod_sheet "SameTuesdayModel" 75 0 76 := Or.inl ⟨0, by decide +kernel, by decide, rfl⟩
theorem d_Mod_sheet_76 : zd b_Mod_sheet 76 .iastore 1 77 := ⟨by decide +kernel, rfl⟩
theorem d_Mod_sheet_77 : zd_i b_Mod_sheet 77 4 1 1 80 := ⟨by decide +kernel, by decide, rfl⟩
theorem d_Mod_sheet_80 : zd_b b_Mod_sheet 80 .goto 83 57 := ⟨(-23), by decide +kernel, by decide, rfl⟩
theorem d_Mod_sheet_83 : zd_k b_Mod_sheet "SameTuesdayModel" 83 1 84 := Or.inl ⟨1, by decide +kernel, by decide, rfl⟩
theorem d_Mod_sheet_84 : zd b_Mod_sheet 84 .ireturn 1 85 := ⟨by decide +kernel, rfl⟩
theorem d_Mod_lose_0 : zd_l .iload_n .iload b_Mod_lose 0 1 1 := Or.inl ⟨1, rfl, by decide +kernel, rfl⟩
theorem d_Mod_lose_1 : zd b_Mod_lose 1 (.invokestatic 96) 3 4 := ⟨by decide +kernel, rfl⟩
theorem d_Mod_lose_4 : zd_b b_Mod_lose 4 (.ifCond .ne) 7 9 := ⟨5, by decide +kernel, by decide, rfl⟩
theorem d_Mod_lose_7 : zd_k b_Mod_lose "SameTuesdayModel" 7 (-1) 8 := Or.inl ⟨(-1), by decide +kernel, by decide, rfl⟩
theorem d_Mod_lose_8 : zd b_Mod_lose 8 .ireturn 1 9 := ⟨by decide +kernel, rfl⟩
theorem d_Mod_lose_9 : zd_l .aload_n .aload b_Mod_lose 9 0 10 := Or.inl ⟨0, rfl, by decide +kernel, rfl⟩
theorem d_Mod_lose_10 : zd b_Mod_lose 10 (.getfield 9) 3 13 := ⟨by decide +kernel, rfl⟩
theorem d_Mod_lose_13 : zd_l .iload_n .iload b_Mod_lose 13 1 14 := Or.inl ⟨1, rfl, by decide +kernel, rfl⟩
theorem d_Mod_lose_14 : zd b_Mod_lose 14 .iaload 1 15 := ⟨by decide +kernel, rfl⟩
theorem d_Mod_lose_15 : zd_k b_Mod_lose "SameTuesdayModel" 15 (-9) 17 := Or.inr (Or.inl ⟨(-9), by decide +kernel, by decide, rfl⟩)
theorem d_Mod_lose_17 : zd_b b_Mod_lose 17 (.if_icmp .ne) 20 24 := ⟨7, by decide +kernel, by decide, rfl⟩
theorem d_Mod_lose_20 : zd_k b_Mod_lose "SameTuesdayModel" 20 0 21 := Or.inl ⟨0, by decide +kernel, by decide, rfl⟩
theorem d_Mod_lose_21 : zd_b b_Mod_lose 21 .goto 24 25 := ⟨4, by decide +kernel, by decide, rfl⟩
theorem d_Mod_lose_24 : zd_k b_Mod_lose "SameTuesdayModel" 24 1 25 := Or.inl ⟨1, by decide +kernel, by decide, rfl⟩
theorem d_Mod_lose_25 : zd_l .istore_n .istore b_Mod_lose 25 2 26 := Or.inl ⟨2, rfl, by decide +kernel, rfl⟩
theorem d_Mod_lose_26 : zd_l .aload_n .aload b_Mod_lose 26 0 27 := Or.inl ⟨0, rfl, by decide +kernel, rfl⟩
theorem d_Mod_lose_27 : zd b_Mod_lose 27 (.getfield 9) 3 30 := ⟨by decide +kernel, rfl⟩
theorem d_Mod_lose_30 : zd_l .iload_n .iload b_Mod_lose 30 1 31 := Or.inl ⟨1, rfl, by decide +kernel, rfl⟩
theorem d_Mod_lose_31 : zd_k b_Mod_lose "SameTuesdayModel" 31 (-9) 33 := Or.inr (Or.inl ⟨(-9), by decide +kernel, by decide, rfl⟩)
theorem d_Mod_lose_33 : zd b_Mod_lose 33 .iastore 1 34 := ⟨by decide +kernel, rfl⟩
theorem d_Mod_lose_34 : zd_l .iload_n .iload b_Mod_lose 34 2 35 := Or.inl ⟨2, rfl, by decide +kernel, rfl⟩
theorem d_Mod_lose_35 : zd b_Mod_lose 35 .ireturn 1 36 := ⟨by decide +kernel, rfl⟩
theorem d_Mod_put_0 : zd_l .aload_n .aload b_Mod_put 0 0 1 := Or.inl ⟨0, rfl, by decide +kernel, rfl⟩
theorem d_Mod_put_1 : zd_k b_Mod_put "SameTuesdayModel" 1 0 2 := Or.inl ⟨0, by decide +kernel, by decide, rfl⟩
theorem d_Mod_put_2 : zd b_Mod_put 2 (.putfield 78) 3 5 := ⟨by decide +kernel, rfl⟩
theorem d_Mod_put_5 : zd_l .iload_n .iload b_Mod_put 5 1 6 := Or.inl ⟨1, rfl, by decide +kernel, rfl⟩
theorem d_Mod_put_6 : zd b_Mod_put 6 (.invokestatic 96) 3 9 := ⟨by decide +kernel, rfl⟩
theorem d_Mod_put_9 : zd_b b_Mod_put 9 (.ifCond .ne) 12 14 := ⟨5, by decide +kernel, by decide, rfl⟩
theorem d_Mod_put_12 : zd_k b_Mod_put "SameTuesdayModel" 12 (-1) 13 := Or.inl ⟨(-1), by decide +kernel, by decide, rfl⟩
theorem d_Mod_put_13 : zd b_Mod_put 13 .ireturn 1 14 := ⟨by decide +kernel, rfl⟩
theorem d_Mod_put_14 : zd_l .aload_n .aload b_Mod_put 14 0 15 := Or.inl ⟨0, rfl, by decide +kernel, rfl⟩
theorem d_Mod_put_15 : zd b_Mod_put 15 (.getfield 9) 3 18 := ⟨by decide +kernel, rfl⟩
theorem d_Mod_put_18 : zd_l .iload_n .iload b_Mod_put 18 1 19 := Or.inl ⟨1, rfl, by decide +kernel, rfl⟩
theorem d_Mod_put_19 : zd b_Mod_put 19 .iaload 1 20 := ⟨by decide +kernel, rfl⟩
theorem d_Mod_put_20 : zd_k b_Mod_put "SameTuesdayModel" 20 (-9) 22 := Or.inr (Or.inl ⟨(-9), by decide +kernel, by decide, rfl⟩)
theorem d_Mod_put_22 : zd_b b_Mod_put 22 (.if_icmp .ne) 25 31 := ⟨9, by decide +kernel, by decide, rfl⟩
theorem d_Mod_put_25 : zd_l .aload_n .aload b_Mod_put 25 0 26 := Or.inl ⟨0, rfl, by decide +kernel, rfl⟩
theorem d_Mod_put_26 : zd_k b_Mod_put "SameTuesdayModel" 26 1 27 := Or.inl ⟨1, by decide +kernel, by decide, rfl⟩
theorem d_Mod_put_27 : zd b_Mod_put 27 (.invokevirtual 107) 3 30 := ⟨by decide +kernel, rfl⟩
theorem d_Mod_put_30 : zd b_Mod_put 30 .ireturn 1 31 := ⟨by decide +kernel, rfl⟩
theorem d_Mod_put_31 : zd_l .iload_n .iload b_Mod_put 31 2 32 := Or.inl ⟨2, rfl, by decide +kernel, rfl⟩
theorem d_Mod_put_32 : zd_k b_Mod_put "SameTuesdayModel" 32 0 33 := Or.inl ⟨0, by decide +kernel, by decide, rfl⟩
theorem d_Mod_put_33 : zd_l .aload_n .aload b_Mod_put 33 0 34 := Or.inl ⟨0, rfl, by decide +kernel, rfl⟩
theorem d_Mod_put_34 : zd b_Mod_put 34 (.getfield 13) 3 37 := ⟨by decide +kernel, rfl⟩
theorem d_Mod_put_37 : zd_l .iload_n .iload b_Mod_put 37 1 38 := Or.inl ⟨1, rfl, by decide +kernel, rfl⟩
theorem d_Mod_put_38 : zd b_Mod_put 38 .iaload 1 39 := ⟨by decide +kernel, rfl⟩
theorem d_Mod_put_39 : zd_k b_Mod_put "SameTuesdayModel" 39 1 40 := Or.inl ⟨1, by decide +kernel, by decide, rfl⟩
theorem d_Mod_put_40 : zd b_Mod_put 40 .isub 1 41 := ⟨by decide +kernel, rfl⟩
theorem d_Mod_put_41 : zd b_Mod_put 41 (.invokestatic 83) 3 44 := ⟨by decide +kernel, rfl⟩
theorem d_Mod_put_44 : zd_b b_Mod_put 44 (.ifCond .ne) 47 53 := ⟨9, by decide +kernel, by decide, rfl⟩
theorem d_Mod_put_47 : zd_l .aload_n .aload b_Mod_put 47 0 48 := Or.inl ⟨0, rfl, by decide +kernel, rfl⟩
theorem d_Mod_put_48 : zd_k b_Mod_put "SameTuesdayModel" 48 3 49 := Or.inl ⟨3, by decide +kernel, by decide, rfl⟩
theorem d_Mod_put_49 : zd b_Mod_put 49 (.invokevirtual 107) 3 52 := ⟨by decide +kernel, rfl⟩
theorem d_Mod_put_52 : zd b_Mod_put 52 .ireturn 1 53 := ⟨by decide +kernel, rfl⟩
theorem d_Mod_put_53 : zd_l .aload_n .aload b_Mod_put 53 0 54 := Or.inl ⟨0, rfl, by decide +kernel, rfl⟩
theorem d_Mod_put_54 : zd b_Mod_put 54 (.getfield 16) 3 57 := ⟨by decide +kernel, rfl⟩
theorem d_Mod_put_57 : zd_k b_Mod_put "SameTuesdayModel" 57 60 59 := Or.inr (Or.inl ⟨60, by decide +kernel, by decide, rfl⟩)
theorem d_Mod_put_59 : zd_l .iload_n .iload b_Mod_put 59 1 60 := Or.inl ⟨1, rfl, by decide +kernel, rfl⟩
theorem d_Mod_put_60 : zd b_Mod_put 60 .imul 1 61 := ⟨by decide +kernel, rfl⟩
theorem d_Mod_put_61 : zd_l .iload_n .iload b_Mod_put 61 2 62 := Or.inl ⟨2, rfl, by decide +kernel, rfl⟩
theorem d_Mod_put_62 : zd b_Mod_put 62 .iadd 1 63 := ⟨by decide +kernel, rfl⟩
theorem d_Mod_put_63 : zd_l .aload_n .aload b_Mod_put 63 0 64 := Or.inl ⟨0, rfl, by decide +kernel, rfl⟩
theorem d_Mod_put_64 : zd b_Mod_put 64 (.getfield 9) 3 67 := ⟨by decide +kernel, rfl⟩
theorem d_Mod_put_67 : zd_l .iload_n .iload b_Mod_put 67 1 68 := Or.inl ⟨1, rfl, by decide +kernel, rfl⟩
theorem d_Mod_put_68 : zd b_Mod_put 68 .iaload 1 69 := ⟨by decide +kernel, rfl⟩
theorem d_Mod_put_69 : zd_b b_Mod_put 69 (.ifCond .ne) 72 77 := ⟨8, by decide +kernel, by decide, rfl⟩
theorem d_Mod_put_72 : zd_l .iload_n .iload b_Mod_put 72 3 73 := Or.inl ⟨3, rfl, by decide +kernel, rfl⟩
theorem d_Mod_put_73 : zd b_Mod_put 73 .i2b 1 74 := ⟨by decide +kernel, rfl⟩
theorem d_Mod_put_74 : zd_b b_Mod_put 74 .goto 77 93 := ⟨19, by decide +kernel, by decide, rfl⟩
theorem d_Mod_put_77 : zd_l .aload_n .aload b_Mod_put 77 0 78 := Or.inl ⟨0, rfl, by decide +kernel, rfl⟩
theorem d_Mod_put_78 : zd b_Mod_put 78 (.getfield 9) 3 81 := ⟨by decide +kernel, rfl⟩
theorem d_Mod_put_81 : zd_l .iload_n .iload b_Mod_put 81 1 82 := Or.inl ⟨1, rfl, by decide +kernel, rfl⟩
theorem d_Mod_put_82 : zd b_Mod_put 82 .iaload 1 83 := ⟨by decide +kernel, rfl⟩
theorem d_Mod_put_83 : zd_k b_Mod_put "SameTuesdayModel" 83 1 84 := Or.inl ⟨1, by decide +kernel, by decide, rfl⟩
theorem d_Mod_put_84 : zd_b b_Mod_put 84 (.if_icmp .ne) 87 92 := ⟨8, by decide +kernel, by decide, rfl⟩
theorem d_Mod_put_87 : zd_l .iload_n .iload b_Mod_put 87 3 88 := Or.inl ⟨3, rfl, by decide +kernel, rfl⟩
theorem d_Mod_put_88 : zd b_Mod_put 88 .i2s 1 89 := ⟨by decide +kernel, rfl⟩
theorem d_Mod_put_89 : zd_b b_Mod_put 89 .goto 92 93 := ⟨4, by decide +kernel, by decide, rfl⟩
theorem d_Mod_put_92 : zd_l .iload_n .iload b_Mod_put 92 3 93 := Or.inl ⟨3, rfl, by decide +kernel, rfl⟩
theorem d_Mod_put_93 : zd b_Mod_put 93 .iastore 1 94 := ⟨by decide +kernel, rfl⟩
theorem d_Mod_put_94 : zd_k b_Mod_put "SameTuesdayModel" 94 1 95 := Or.inl ⟨1, by decide +kernel, by decide, rfl⟩
theorem d_Mod_put_95 : zd b_Mod_put 95 .ireturn 1 96 := ⟨by decide +kernel, rfl⟩
theorem d_Mod_cell_0 : zd_l .aload_n .aload b_Mod_cell 0 0 1 := Or.inl ⟨0, rfl, by decide +kernel, rfl⟩
theorem d_Mod_cell_1 : zd_k b_Mod_cell "SameTuesdayModel" 1 0 2 := Or.inl ⟨0, by decide +kernel, by decide, rfl⟩
theorem d_Mod_cell_2 : zd b_Mod_cell 2 (.putfield 78) 3 5 := ⟨by decide +kernel, rfl⟩
theorem d_Mod_cell_5 : zd_l .iload_n .iload b_Mod_cell 5 1 6 := Or.inl ⟨1, rfl, by decide +kernel, rfl⟩
theorem d_Mod_cell_6 : zd b_Mod_cell 6 (.invokestatic 96) 3 9 := ⟨by decide +kernel, rfl⟩
theorem d_Mod_cell_9 : zd_b b_Mod_cell 9 (.ifCond .eq) 12 19 := ⟨10, by decide +kernel, by decide, rfl⟩
theorem d_Mod_cell_12 : zd_l .iload_n .iload b_Mod_cell 12 3 13 := Or.inl ⟨3, rfl, by decide +kernel, rfl⟩
theorem d_Mod_cell_13 : zd b_Mod_cell 13 (.invokestatic 100) 3 16 := ⟨by decide +kernel, rfl⟩
theorem d_Mod_cell_16 : zd_b b_Mod_cell 16 (.ifCond .ne) 19 23 := ⟨7, by decide +kernel, by decide, rfl⟩
set_option maxRecDepth 20000 in
theorem d_Mod_cell_19 : zd_kl b_Mod_cell "SameTuesdayModel" 19 (-9223372036854775808) 22 := Or.inr ⟨81, by decide +kernel, zb_mem 1213 rfl rfl, rfl⟩
theorem d_Mod_cell_22 : zd b_Mod_cell 22 .lreturn 1 23 := ⟨by decide +kernel, rfl⟩
theorem d_Mod_cell_23 : zd_l .aload_n .aload b_Mod_cell 23 0 24 := Or.inl ⟨0, rfl, by decide +kernel, rfl⟩
theorem d_Mod_cell_24 : zd b_Mod_cell 24 (.getfield 9) 3 27 := ⟨by decide +kernel, rfl⟩
theorem d_Mod_cell_27 : zd_l .iload_n .iload b_Mod_cell 27 1 28 := Or.inl ⟨1, rfl, by decide +kernel, rfl⟩
theorem d_Mod_cell_28 : zd b_Mod_cell 28 .iaload 1 29 := ⟨by decide +kernel, rfl⟩
theorem d_Mod_cell_29 : zd_k b_Mod_cell "SameTuesdayModel" 29 (-9) 31 := Or.inr (Or.inl ⟨(-9), by decide +kernel, by decide, rfl⟩)
theorem d_Mod_cell_31 : zd_b b_Mod_cell 31 (.if_icmp .eq) 34 50 := ⟨19, by decide +kernel, by decide, rfl⟩
theorem d_Mod_cell_34 : zd_l .aload_n .aload b_Mod_cell 34 0 35 := Or.inl ⟨0, rfl, by decide +kernel, rfl⟩
theorem d_Mod_cell_35 : zd b_Mod_cell 35 (.getfield 9) 3 38 := ⟨by decide +kernel, rfl⟩
theorem d_Mod_cell_38 : zd_l .iload_n .iload b_Mod_cell 38 1 39 := Or.inl ⟨1, rfl, by decide +kernel, rfl⟩
theorem d_Mod_cell_39 : zd b_Mod_cell 39 .iaload 1 40 := ⟨by decide +kernel, rfl⟩
theorem d_Mod_cell_40 : zd_l .iload_n .iload b_Mod_cell 40 3 41 := Or.inl ⟨3, rfl, by decide +kernel, rfl⟩
theorem d_Mod_cell_41 : zd_b b_Mod_cell 41 (.if_icmp .eq) 44 50 := ⟨9, by decide +kernel, by decide, rfl⟩
theorem d_Mod_cell_44 : zd_l .aload_n .aload b_Mod_cell 44 0 45 := Or.inl ⟨0, rfl, by decide +kernel, rfl⟩
theorem d_Mod_cell_45 : zd_k b_Mod_cell "SameTuesdayModel" 45 2 46 := Or.inl ⟨2, by decide +kernel, by decide, rfl⟩
theorem d_Mod_cell_46 : zd b_Mod_cell 46 (.invokevirtual 232) 3 49 := ⟨by decide +kernel, rfl⟩
theorem d_Mod_cell_49 : zd b_Mod_cell 49 .lreturn 1 50 := ⟨by decide +kernel, rfl⟩
theorem d_Mod_cell_50 : zd_l .aload_n .aload b_Mod_cell 50 0 51 := Or.inl ⟨0, rfl, by decide +kernel, rfl⟩
theorem d_Mod_cell_51 : zd b_Mod_cell 51 (.getfield 9) 3 54 := ⟨by decide +kernel, rfl⟩
theorem d_Mod_cell_54 : zd_l .iload_n .iload b_Mod_cell 54 1 55 := Or.inl ⟨1, rfl, by decide +kernel, rfl⟩
theorem d_Mod_cell_55 : zd b_Mod_cell 55 .iaload 1 56 := ⟨by decide +kernel, rfl⟩
theorem d_Mod_cell_56 : zd_k b_Mod_cell "SameTuesdayModel" 56 (-9) 58 := Or.inr (Or.inl ⟨(-9), by decide +kernel, by decide, rfl⟩)
theorem d_Mod_cell_58 : zd_b b_Mod_cell 58 (.if_icmp .ne) 61 67 := ⟨9, by decide +kernel, by decide, rfl⟩
theorem d_Mod_cell_61 : zd_l .aload_n .aload b_Mod_cell 61 0 62 := Or.inl ⟨0, rfl, by decide +kernel, rfl⟩
theorem d_Mod_cell_62 : zd_k b_Mod_cell "SameTuesdayModel" 62 1 63 := Or.inl ⟨1, by decide +kernel, by decide, rfl⟩
theorem d_Mod_cell_63 : zd b_Mod_cell 63 (.invokevirtual 232) 3 66 := ⟨by decide +kernel, rfl⟩
theorem d_Mod_cell_66 : zd b_Mod_cell 66 .lreturn 1 67 := ⟨by decide +kernel, rfl⟩
theorem d_Mod_cell_67 : zd_l .iload_n .iload b_Mod_cell 67 2 68 := Or.inl ⟨2, rfl, by decide +kernel, rfl⟩
theorem d_Mod_cell_68 : zd_k b_Mod_cell "SameTuesdayModel" 68 0 69 := Or.inl ⟨0, by decide +kernel, by decide, rfl⟩
theorem d_Mod_cell_69 : zd_l .aload_n .aload b_Mod_cell 69 0 70 := Or.inl ⟨0, rfl, by decide +kernel, rfl⟩
theorem d_Mod_cell_70 : zd b_Mod_cell 70 (.getfield 13) 3 73 := ⟨by decide +kernel, rfl⟩
theorem d_Mod_cell_73 : zd_l .iload_n .iload b_Mod_cell 73 1 74 := Or.inl ⟨1, rfl, by decide +kernel, rfl⟩
theorem d_Mod_cell_74 : zd b_Mod_cell 74 .iaload 1 75 := ⟨by decide +kernel, rfl⟩
theorem d_Mod_cell_75 : zd_k b_Mod_cell "SameTuesdayModel" 75 1 76 := Or.inl ⟨1, by decide +kernel, by decide, rfl⟩
theorem d_Mod_cell_76 : zd b_Mod_cell 76 .isub 1 77 := ⟨by decide +kernel, rfl⟩
theorem d_Mod_cell_77 : zd b_Mod_cell 77 (.invokestatic 83) 3 80 := ⟨by decide +kernel, rfl⟩
theorem d_Mod_cell_80 : zd_b b_Mod_cell 80 (.ifCond .ne) 83 89 := ⟨9, by decide +kernel, by decide, rfl⟩
theorem d_Mod_cell_83 : zd_l .aload_n .aload b_Mod_cell 83 0 84 := Or.inl ⟨0, rfl, by decide +kernel, rfl⟩
theorem d_Mod_cell_84 : zd_k b_Mod_cell "SameTuesdayModel" 84 3 85 := Or.inl ⟨3, by decide +kernel, by decide, rfl⟩
theorem d_Mod_cell_85 : zd b_Mod_cell 85 (.invokevirtual 232) 3 88 := ⟨by decide +kernel, rfl⟩
theorem d_Mod_cell_88 : zd b_Mod_cell 88 .lreturn 1 89 := ⟨by decide +kernel, rfl⟩
theorem d_Mod_cell_89 : zd_l .aload_n .aload b_Mod_cell 89 0 90 := Or.inl ⟨0, rfl, by decide +kernel, rfl⟩
theorem d_Mod_cell_90 : zd b_Mod_cell 90 (.getfield 16) 3 93 := ⟨by decide +kernel, rfl⟩
theorem d_Mod_cell_93 : zd_k b_Mod_cell "SameTuesdayModel" 93 60 95 := Or.inr (Or.inl ⟨60, by decide +kernel, by decide, rfl⟩)
theorem d_Mod_cell_95 : zd_l .iload_n .iload b_Mod_cell 95 1 96 := Or.inl ⟨1, rfl, by decide +kernel, rfl⟩
theorem d_Mod_cell_96 : zd b_Mod_cell 96 .imul 1 97 := ⟨by decide +kernel, rfl⟩
theorem d_Mod_cell_97 : zd_l .iload_n .iload b_Mod_cell 97 2 98 := Or.inl ⟨2, rfl, by decide +kernel, rfl⟩
theorem d_Mod_cell_98 : zd b_Mod_cell 98 .iadd 1 99 := ⟨by decide +kernel, rfl⟩
theorem d_Mod_cell_99 : zd b_Mod_cell 99 .iaload 1 100 := ⟨by decide +kernel, rfl⟩
theorem d_Mod_cell_100 : zd b_Mod_cell 100 .i2l 1 101 := ⟨by decide +kernel, rfl⟩
theorem d_Mod_cell_101 : zd b_Mod_cell 101 .lreturn 1 102 := ⟨by decide +kernel, rfl⟩
theorem d_Mod_copy_0 : zd_l .aload_n .aload b_Mod_copy 0 0 1 := Or.inl ⟨0, rfl, by decide +kernel, rfl⟩
theorem d_Mod_copy_1 : zd_k b_Mod_copy "SameTuesdayModel" 1 0 2 := Or.inl ⟨0, by decide +kernel, by decide, rfl⟩
theorem d_Mod_copy_2 : zd b_Mod_copy 2 (.putfield 78) 3 5 := ⟨by decide +kernel, rfl⟩
theorem d_Mod_copy_5 : zd_l .iload_n .iload b_Mod_copy 5 1 6 := Or.inl ⟨1, rfl, by decide +kernel, rfl⟩
theorem d_Mod_copy_6 : zd b_Mod_copy 6 (.invokestatic 96) 3 9 := ⟨by decide +kernel, rfl⟩
theorem d_Mod_copy_9 : zd_b b_Mod_copy 9 (.ifCond .eq) 12 19 := ⟨10, by decide +kernel, by decide, rfl⟩
theorem d_Mod_copy_12 : zd_l .iload_n .iload b_Mod_copy 12 3 13 := Or.inl ⟨3, rfl, by decide +kernel, rfl⟩
theorem d_Mod_copy_13 : zd b_Mod_copy 13 (.invokestatic 96) 3 16 := ⟨by decide +kernel, rfl⟩
theorem d_Mod_copy_16 : zd_b b_Mod_copy 16 (.ifCond .ne) 19 21 := ⟨5, by decide +kernel, by decide, rfl⟩
theorem d_Mod_copy_19 : zd_k b_Mod_copy "SameTuesdayModel" 19 (-1) 20 := Or.inl ⟨(-1), by decide +kernel, by decide, rfl⟩
theorem d_Mod_copy_20 : zd b_Mod_copy 20 .ireturn 1 21 := ⟨by decide +kernel, rfl⟩
theorem d_Mod_copy_21 : zd_l .aload_n .aload b_Mod_copy 21 0 22 := Or.inl ⟨0, rfl, by decide +kernel, rfl⟩
theorem d_Mod_copy_22 : zd b_Mod_copy 22 (.getfield 9) 3 25 := ⟨by decide +kernel, rfl⟩
theorem d_Mod_copy_25 : zd_l .iload_n .iload b_Mod_copy 25 1 26 := Or.inl ⟨1, rfl, by decide +kernel, rfl⟩
theorem d_Mod_copy_26 : zd b_Mod_copy 26 .iaload 1 27 := ⟨by decide +kernel, rfl⟩
theorem d_Mod_copy_27 : zd_k b_Mod_copy "SameTuesdayModel" 27 (-9) 29 := Or.inr (Or.inl ⟨(-9), by decide +kernel, by decide, rfl⟩)
theorem d_Mod_copy_29 : zd_b b_Mod_copy 29 (.if_icmp .eq) 32 43 := ⟨14, by decide +kernel, by decide, rfl⟩
theorem d_Mod_copy_32 : zd_l .aload_n .aload b_Mod_copy 32 0 33 := Or.inl ⟨0, rfl, by decide +kernel, rfl⟩
theorem d_Mod_copy_33 : zd b_Mod_copy 33 (.getfield 9) 3 36 := ⟨by decide +kernel, rfl⟩
theorem d_Mod_copy_36 : zd_l .iload_n .iload b_Mod_copy 36 3 37 := Or.inl ⟨3, rfl, by decide +kernel, rfl⟩
theorem d_Mod_copy_37 : zd b_Mod_copy 37 .iaload 1 38 := ⟨by decide +kernel, rfl⟩
theorem d_Mod_copy_38 : zd_k b_Mod_copy "SameTuesdayModel" 38 (-9) 40 := Or.inr (Or.inl ⟨(-9), by decide +kernel, by decide, rfl⟩)
theorem d_Mod_copy_40 : zd_b b_Mod_copy 40 (.if_icmp .ne) 43 49 := ⟨9, by decide +kernel, by decide, rfl⟩
theorem d_Mod_copy_43 : zd_l .aload_n .aload b_Mod_copy 43 0 44 := Or.inl ⟨0, rfl, by decide +kernel, rfl⟩
theorem d_Mod_copy_44 : zd_k b_Mod_copy "SameTuesdayModel" 44 1 45 := Or.inl ⟨1, by decide +kernel, by decide, rfl⟩
theorem d_Mod_copy_45 : zd b_Mod_copy 45 (.invokevirtual 107) 3 48 := ⟨by decide +kernel, rfl⟩
theorem d_Mod_copy_48 : zd b_Mod_copy 48 .ireturn 1 49 := ⟨by decide +kernel, rfl⟩
theorem d_Mod_copy_49 : zd_l .aload_n .aload b_Mod_copy 49 0 50 := Or.inl ⟨0, rfl, by decide +kernel, rfl⟩
theorem d_Mod_copy_50 : zd b_Mod_copy 50 (.getfield 9) 3 53 := ⟨by decide +kernel, rfl⟩
theorem d_Mod_copy_53 : zd_l .iload_n .iload b_Mod_copy 53 1 54 := Or.inl ⟨1, rfl, by decide +kernel, rfl⟩
theorem d_Mod_copy_54 : zd b_Mod_copy 54 .iaload 1 55 := ⟨by decide +kernel, rfl⟩
theorem d_Mod_copy_55 : zd_l .aload_n .aload b_Mod_copy 55 0 56 := Or.inl ⟨0, rfl, by decide +kernel, rfl⟩
theorem d_Mod_copy_56 : zd b_Mod_copy 56 (.getfield 9) 3 59 := ⟨by decide +kernel, rfl⟩
theorem d_Mod_copy_59 : zd_l .iload_n .iload b_Mod_copy 59 3 60 := Or.inl ⟨3, rfl, by decide +kernel, rfl⟩
theorem d_Mod_copy_60 : zd b_Mod_copy 60 .iaload 1 61 := ⟨by decide +kernel, rfl⟩
theorem d_Mod_copy_61 : zd_b b_Mod_copy 61 (.if_icmp .eq) 64 70 := ⟨9, by decide +kernel, by decide, rfl⟩
theorem d_Mod_copy_64 : zd_l .aload_n .aload b_Mod_copy 64 0 65 := Or.inl ⟨0, rfl, by decide +kernel, rfl⟩
theorem d_Mod_copy_65 : zd_k b_Mod_copy "SameTuesdayModel" 65 2 66 := Or.inl ⟨2, by decide +kernel, by decide, rfl⟩
theorem d_Mod_copy_66 : zd b_Mod_copy 66 (.invokevirtual 107) 3 69 := ⟨by decide +kernel, rfl⟩
theorem d_Mod_copy_69 : zd b_Mod_copy 69 .ireturn 1 70 := ⟨by decide +kernel, rfl⟩
theorem d_Mod_copy_70 : zd_l .iload_n .iload b_Mod_copy 70 2 71 := Or.inl ⟨2, rfl, by decide +kernel, rfl⟩
theorem d_Mod_copy_71 : zd_b b_Mod_copy 71 (.ifCond .lt) 74 109 := ⟨38, by decide +kernel, by decide, rfl⟩
theorem d_Mod_copy_74 : zd_l .iload_n .iload b_Mod_copy 74 4 76 := Or.inr ⟨by decide +kernel, rfl⟩
theorem d_Mod_copy_76 : zd_b b_Mod_copy 76 (.ifCond .lt) 79 109 := ⟨33, by decide +kernel, by decide, rfl⟩
theorem d_Mod_copy_79 : zd_l .iload_n .iload b_Mod_copy 79 5 81 := Or.inr ⟨by decide +kernel, rfl⟩
theorem d_Mod_copy_81 : zd_b b_Mod_copy 81 (.ifCond .lt) 84 109 := ⟨28, by decide +kernel, by decide, rfl⟩
theorem d_Mod_copy_84 : zd_l .iload_n .iload b_Mod_copy 84 2 85 := Or.inl ⟨2, rfl, by decide +kernel, rfl⟩
theorem d_Mod_copy_85 : zd_l .aload_n .aload b_Mod_copy 85 0 86 := Or.inl ⟨0, rfl, by decide +kernel, rfl⟩
theorem d_Mod_copy_86 : zd b_Mod_copy 86 (.getfield 13) 3 89 := ⟨by decide +kernel, rfl⟩
theorem d_Mod_copy_89 : zd_l .iload_n .iload b_Mod_copy 89 1 90 := Or.inl ⟨1, rfl, by decide +kernel, rfl⟩
theorem d_Mod_copy_90 : zd b_Mod_copy 90 .iaload 1 91 := ⟨by decide +kernel, rfl⟩
theorem d_Mod_copy_91 : zd_b b_Mod_copy 91 (.if_icmp .gt) 94 109 := ⟨18, by decide +kernel, by decide, rfl⟩
theorem d_Mod_copy_94 : zd_l .iload_n .iload b_Mod_copy 94 4 96 := Or.inr ⟨by decide +kernel, rfl⟩
theorem d_Mod_copy_96 : zd_l .aload_n .aload b_Mod_copy 96 0 97 := Or.inl ⟨0, rfl, by decide +kernel, rfl⟩
theorem d_Mod_copy_97 : zd b_Mod_copy 97 (.getfield 13) 3 100 := ⟨by decide +kernel, rfl⟩
theorem d_Mod_copy_100 : zd_l .iload_n .iload b_Mod_copy 100 3 101 := Or.inl ⟨3, rfl, by decide +kernel, rfl⟩
theorem d_Mod_copy_101 : zd b_Mod_copy 101 .iaload 1 102 := ⟨by decide +kernel, rfl⟩
theorem d_Mod_copy_102 : zd_b b_Mod_copy 102 (.if_icmp .gt) 105 109 := ⟨7, by decide +kernel, by decide, rfl⟩
theorem d_Mod_copy_105 : zd_k b_Mod_copy "SameTuesdayModel" 105 1 106 := Or.inl ⟨1, by decide +kernel, by decide, rfl⟩
theorem d_Mod_copy_106 : zd_b b_Mod_copy 106 .goto 109 110 := ⟨4, by decide +kernel, by decide, rfl⟩
theorem d_Mod_copy_109 : zd_k b_Mod_copy "SameTuesdayModel" 109 0 110 := Or.inl ⟨0, by decide +kernel, by decide, rfl⟩
theorem d_Mod_copy_110 : zd_l .istore_n .istore b_Mod_copy 110 6 112 := Or.inr ⟨by decide +kernel, rfl⟩
theorem d_Mod_copy_112 : zd_l .iload_n .iload b_Mod_copy 112 6 114 := Or.inr ⟨by decide +kernel, rfl⟩
theorem d_Mod_copy_114 : zd_b b_Mod_copy 114 (.ifCond .eq) 117 144 := ⟨30, by decide +kernel, by decide, rfl⟩
theorem d_Mod_copy_117 : zd_l .iload_n .iload b_Mod_copy 117 5 119 := Or.inr ⟨by decide +kernel, rfl⟩
theorem d_Mod_copy_119 : zd_l .aload_n .aload b_Mod_copy 119 0 120 := Or.inl ⟨0, rfl, by decide +kernel, rfl⟩
theorem d_Mod_copy_120 : zd b_Mod_copy 120 (.getfield 13) 3 123 := ⟨by decide +kernel, rfl⟩
theorem d_Mod_copy_123 : zd_l .iload_n .iload b_Mod_copy 123 1 124 := Or.inl ⟨1, rfl, by decide +kernel, rfl⟩
theorem d_Mod_copy_124 : zd b_Mod_copy 124 .iaload 1 125 := ⟨by decide +kernel, rfl⟩
theorem d_Mod_copy_125 : zd_l .iload_n .iload b_Mod_copy 125 2 126 := Or.inl ⟨2, rfl, by decide +kernel, rfl⟩
theorem d_Mod_copy_126 : zd b_Mod_copy 126 .isub 1 127 := ⟨by decide +kernel, rfl⟩
theorem d_Mod_copy_127 : zd_b b_Mod_copy 127 (.if_icmp .gt) 130 144 := ⟨17, by decide +kernel, by decide, rfl⟩
theorem d_Mod_copy_130 : zd_l .iload_n .iload b_Mod_copy 130 5 132 := Or.inr ⟨by decide +kernel, rfl⟩
theorem d_Mod_copy_132 : zd_l .aload_n .aload b_Mod_copy 132 0 133 := Or.inl ⟨0, rfl, by decide +kernel, rfl⟩
theorem d_Mod_copy_133 : zd b_Mod_copy 133 (.getfield 13) 3 136 := ⟨by decide +kernel, rfl⟩
theorem d_Mod_copy_136 : zd_l .iload_n .iload b_Mod_copy 136 3 137 := Or.inl ⟨3, rfl, by decide +kernel, rfl⟩
theorem d_Mod_copy_137 : zd b_Mod_copy 137 .iaload 1 138 := ⟨by decide +kernel, rfl⟩
theorem d_Mod_copy_138 : zd_l .iload_n .iload b_Mod_copy 138 4 140 := Or.inr ⟨by decide +kernel, rfl⟩
theorem d_Mod_copy_140 : zd b_Mod_copy 140 .isub 1 141 := ⟨by decide +kernel, rfl⟩
theorem d_Mod_copy_141 : zd_b b_Mod_copy 141 (.if_icmp .le) 144 150 := ⟨9, by decide +kernel, by decide, rfl⟩
theorem d_Mod_copy_144 : zd_l .aload_n .aload b_Mod_copy 144 0 145 := Or.inl ⟨0, rfl, by decide +kernel, rfl⟩
theorem d_Mod_copy_145 : zd_k b_Mod_copy "SameTuesdayModel" 145 3 146 := Or.inl ⟨3, by decide +kernel, by decide, rfl⟩
theorem d_Mod_copy_146 : zd b_Mod_copy 146 (.invokevirtual 107) 3 149 := ⟨by decide +kernel, rfl⟩
theorem d_Mod_copy_149 : zd b_Mod_copy 149 .ireturn 1 150 := ⟨by decide +kernel, rfl⟩
theorem d_Mod_copy_150 : zd_l .iload_n .iload b_Mod_copy 150 2 151 := Or.inl ⟨2, rfl, by decide +kernel, rfl⟩
theorem d_Mod_copy_151 : zd_l .iload_n .iload b_Mod_copy 151 4 153 := Or.inr ⟨by decide +kernel, rfl⟩
theorem d_Mod_copy_153 : zd_b b_Mod_copy 153 (.if_icmp .ge) 156 160 := ⟨7, by decide +kernel, by decide, rfl⟩
theorem d_Mod_copy_156 : zd_k b_Mod_copy "SameTuesdayModel" 156 1 157 := Or.inl ⟨1, by decide +kernel, by decide, rfl⟩
theorem d_Mod_copy_157 : zd_b b_Mod_copy 157 .goto 160 161 := ⟨4, by decide +kernel, by decide, rfl⟩
theorem d_Mod_copy_160 : zd_k b_Mod_copy "SameTuesdayModel" 160 0 161 := Or.inl ⟨0, by decide +kernel, by decide, rfl⟩
theorem d_Mod_copy_161 : zd_l .istore_n .istore b_Mod_copy 161 7 163 := Or.inr ⟨by decide +kernel, rfl⟩
theorem d_Mod_copy_163 : zd_k b_Mod_copy "SameTuesdayModel" 163 0 164 := Or.inl ⟨0, by decide +kernel, by decide, rfl⟩
theorem d_Mod_copy_164 : zd_l .istore_n .istore b_Mod_copy 164 8 166 := Or.inr ⟨by decide +kernel, rfl⟩
theorem d_Mod_copy_166 : zd_l .iload_n .iload b_Mod_copy 166 8 168 := Or.inr ⟨by decide +kernel, rfl⟩
theorem d_Mod_copy_168 : zd_l .iload_n .iload b_Mod_copy 168 5 170 := Or.inr ⟨by decide +kernel, rfl⟩
theorem d_Mod_copy_170 : zd_b b_Mod_copy 170 (.if_icmp .ge) 173 227 := ⟨57, by decide +kernel, by decide, rfl⟩
theorem d_Mod_copy_173 : zd_l .iload_n .iload b_Mod_copy 173 7 175 := Or.inr ⟨by decide +kernel, rfl⟩
theorem d_Mod_copy_175 : zd_b b_Mod_copy 175 (.ifCond .eq) 178 188 := ⟨13, by decide +kernel, by decide, rfl⟩
theorem d_Mod_copy_178 : zd_l .iload_n .iload b_Mod_copy 178 5 180 := Or.inr ⟨by decide +kernel, rfl⟩
theorem d_Mod_copy_180 : zd_k b_Mod_copy "SameTuesdayModel" 180 1 181 := Or.inl ⟨1, by decide +kernel, by decide, rfl⟩
theorem d_Mod_copy_181 : zd b_Mod_copy 181 .isub 1 182 := ⟨by decide +kernel, rfl⟩
theorem d_Mod_copy_182 : zd_l .iload_n .iload b_Mod_copy 182 8 184 := Or.inr ⟨by decide +kernel, rfl⟩
theorem d_Mod_copy_184 : zd b_Mod_copy 184 .isub 1 185 := ⟨by decide +kernel, rfl⟩
theorem d_Mod_copy_185 : zd_b b_Mod_copy 185 .goto 188 190 := ⟨5, by decide +kernel, by decide, rfl⟩
theorem d_Mod_copy_188 : zd_l .iload_n .iload b_Mod_copy 188 8 190 := Or.inr ⟨by decide +kernel, rfl⟩
theorem d_Mod_copy_190 : zd_l .istore_n .istore b_Mod_copy 190 9 192 := Or.inr ⟨by decide +kernel, rfl⟩
theorem d_Mod_copy_192 : zd_l .aload_n .aload b_Mod_copy 192 0 193 := Or.inl ⟨0, rfl, by decide +kernel, rfl⟩
theorem d_Mod_copy_193 : zd b_Mod_copy 193 (.getfield 16) 3 196 := ⟨by decide +kernel, rfl⟩
theorem d_Mod_copy_196 : zd_k b_Mod_copy "SameTuesdayModel" 196 60 198 := Or.inr (Or.inl ⟨60, by decide +kernel, by decide, rfl⟩)
theorem d_Mod_copy_198 : zd_l .iload_n .iload b_Mod_copy 198 3 199 := Or.inl ⟨3, rfl, by decide +kernel, rfl⟩
theorem d_Mod_copy_199 : zd b_Mod_copy 199 .imul 1 200 := ⟨by decide +kernel, rfl⟩
theorem d_Mod_copy_200 : zd_l .iload_n .iload b_Mod_copy 200 4 202 := Or.inr ⟨by decide +kernel, rfl⟩
theorem d_Mod_copy_202 : zd b_Mod_copy 202 .iadd 1 203 := ⟨by decide +kernel, rfl⟩
theorem d_Mod_copy_203 : zd_l .iload_n .iload b_Mod_copy 203 9 205 := Or.inr ⟨by decide +kernel, rfl⟩
theorem d_Mod_copy_205 : zd b_Mod_copy 205 .iadd 1 206 := ⟨by decide +kernel, rfl⟩
theorem d_Mod_copy_206 : zd_l .aload_n .aload b_Mod_copy 206 0 207 := Or.inl ⟨0, rfl, by decide +kernel, rfl⟩
theorem d_Mod_copy_207 : zd b_Mod_copy 207 (.getfield 16) 3 210 := ⟨by decide +kernel, rfl⟩
theorem d_Mod_copy_210 : zd_k b_Mod_copy "SameTuesdayModel" 210 60 212 := Or.inr (Or.inl ⟨60, by decide +kernel, by decide, rfl⟩)
theorem d_Mod_copy_212 : zd_l .iload_n .iload b_Mod_copy 212 1 213 := Or.inl ⟨1, rfl, by decide +kernel, rfl⟩
theorem d_Mod_copy_213 : zd b_Mod_copy 213 .imul 1 214 := ⟨by decide +kernel, rfl⟩
theorem d_Mod_copy_214 : zd_l .iload_n .iload b_Mod_copy 214 2 215 := Or.inl ⟨2, rfl, by decide +kernel, rfl⟩
theorem d_Mod_copy_215 : zd b_Mod_copy 215 .iadd 1 216 := ⟨by decide +kernel, rfl⟩
theorem d_Mod_copy_216 : zd_l .iload_n .iload b_Mod_copy 216 9 218 := Or.inr ⟨by decide +kernel, rfl⟩
theorem d_Mod_copy_218 : zd b_Mod_copy 218 .iadd 1 219 := ⟨by decide +kernel, rfl⟩
theorem d_Mod_copy_219 : zd b_Mod_copy 219 .iaload 1 220 := ⟨by decide +kernel, rfl⟩
theorem d_Mod_copy_220 : zd b_Mod_copy 220 .iastore 1 221 := ⟨by decide +kernel, rfl⟩
theorem d_Mod_copy_221 : zd_i b_Mod_copy 221 8 1 1 224 := ⟨by decide +kernel, by decide, rfl⟩
theorem d_Mod_copy_224 : zd_b b_Mod_copy 224 .goto 227 166 := ⟨(-58), by decide +kernel, by decide, rfl⟩
theorem d_Mod_copy_227 : zd_l .iload_n .iload b_Mod_copy 227 5 229 := Or.inr ⟨by decide +kernel, rfl⟩
theorem d_Mod_copy_229 : zd b_Mod_copy 229 .ireturn 1 230 := ⟨by decide +kernel, rfl⟩
theorem d_Mod_begins_0 : zd_l .aload_n .aload b_Mod_begins 0 0 1 := Or.inl ⟨0, rfl, by decide +kernel, rfl⟩
theorem d_Mod_begins_1 : zd_k b_Mod_begins "SameTuesdayModel" 1 31 3 := Or.inr (Or.inl ⟨31, by decide +kernel, by decide, rfl⟩)
theorem d_Mod_begins_3 : zd_l .aload_n .aload b_Mod_begins 3 0 4 := Or.inl ⟨0, rfl, by decide +kernel, rfl⟩
theorem d_Mod_begins_4 : zd b_Mod_begins 4 (.getfield 236) 3 7 := ⟨by decide +kernel, rfl⟩
theorem d_Mod_begins_7 : zd b_Mod_begins 7 .imul 1 8 := ⟨by decide +kernel, rfl⟩
theorem d_Mod_begins_8 : zd_l .iload_n .iload b_Mod_begins 8 1 9 := Or.inl ⟨1, rfl, by decide +kernel, rfl⟩
theorem d_Mod_begins_9 : zd b_Mod_begins 9 .iadd 1 10 := ⟨by decide +kernel, rfl⟩
theorem d_Mod_begins_10 : zd b_Mod_begins 10 (.putfield 236) 3 13 := ⟨by decide +kernel, rfl⟩
theorem d_Mod_begins_13 : zd b_Mod_begins 13 .return_ 1 14 := ⟨by decide +kernel, rfl⟩
theorem d_Mod_tell_0 : zd_l .aload_n .aload b_Mod_tell 0 0 1 := Or.inl ⟨0, rfl, by decide +kernel, rfl⟩
theorem d_Mod_tell_1 : zd_l .iload_n .iload b_Mod_tell 1 1 2 := Or.inl ⟨1, rfl, by decide +kernel, rfl⟩
theorem d_Mod_tell_2 : zd b_Mod_tell 2 (.invokevirtual 140) 3 5 := ⟨by decide +kernel, rfl⟩
theorem d_Mod_tell_5 : zd_b b_Mod_tell 5 (.ifCond .ne) 8 10 := ⟨5, by decide +kernel, by decide, rfl⟩
theorem d_Mod_tell_8 : zd_k b_Mod_tell "SameTuesdayModel" 8 (-1) 9 := Or.inl ⟨(-1), by decide +kernel, by decide, rfl⟩
theorem d_Mod_tell_9 : zd b_Mod_tell 9 .ireturn 1 10 := ⟨by decide +kernel, rfl⟩
theorem d_Mod_tell_10 : zd_l .aload_n .aload b_Mod_tell 10 0 11 := Or.inl ⟨0, rfl, by decide +kernel, rfl⟩
theorem d_Mod_tell_11 : zd b_Mod_tell 11 (.getfield 22) 3 14 := ⟨by decide +kernel, rfl⟩
theorem d_Mod_tell_14 : zd_l .iload_n .iload b_Mod_tell 14 1 15 := Or.inl ⟨1, rfl, by decide +kernel, rfl⟩
theorem d_Mod_tell_15 : zd b_Mod_tell 15 .iaload 1 16 := ⟨by decide +kernel, rfl⟩
theorem d_Mod_tell_16 : zd_l .istore_n .istore b_Mod_tell 16 2 17 := Or.inl ⟨2, rfl, by decide +kernel, rfl⟩
theorem d_Mod_tell_17 : zd_l .aload_n .aload b_Mod_tell 17 0 18 := Or.inl ⟨0, rfl, by decide +kernel, rfl⟩
theorem d_Mod_tell_18 : zd b_Mod_tell 18 (.getfield 19) 3 21 := ⟨by decide +kernel, rfl⟩
theorem d_Mod_tell_21 : zd_l .iload_n .iload b_Mod_tell 21 1 22 := Or.inl ⟨1, rfl, by decide +kernel, rfl⟩
theorem d_Mod_tell_22 : zd b_Mod_tell 22 .iaload 1 23 := ⟨by decide +kernel, rfl⟩
theorem d_Mod_tell_23 : decode b_Mod_tell 23 = .ok (.lookupswitch 67 #[(1, 25), (2, 40)], 25) := by decide +kernel
theorem d_Mod_tell_48 : zd_l .aload_n .aload b_Mod_tell 48 0 49 := Or.inl ⟨0, rfl, by decide +kernel, rfl⟩
theorem d_Mod_tell_49 : zd_k b_Mod_tell "SameTuesdayModel" 49 2 50 := Or.inl ⟨2, by decide +kernel, by decide, rfl⟩
theorem d_Mod_tell_50 : zd b_Mod_tell 50 (.invokevirtual 239) 3 53 := ⟨by decide +kernel, rfl⟩
theorem d_Mod_tell_53 : zd_l .aload_n .aload b_Mod_tell 53 0 54 := Or.inl ⟨0, rfl, by decide +kernel, rfl⟩
theorem d_Mod_tell_54 : zd_k b_Mod_tell "SameTuesdayModel" 54 1 55 := Or.inl ⟨1, by decide +kernel, by decide, rfl⟩
theorem d_Mod_tell_55 : zd b_Mod_tell 55 (.invokevirtual 239) 3 58 := ⟨by decide +kernel, rfl⟩
theorem d_Mod_tell_58 : zd_l .iload_n .iload b_Mod_tell 58 2 59 := Or.inl ⟨2, rfl, by decide +kernel, rfl⟩
theorem d_Mod_tell_59 : zd_k b_Mod_tell "SameTuesdayModel" 59 100 61 := Or.inr (Or.inl ⟨100, by decide +kernel, by decide, rfl⟩)
theorem d_Mod_tell_61 : zd b_Mod_tell 61 .iadd 1 62 := ⟨by decide +kernel, rfl⟩
theorem d_Mod_tell_62 : zd b_Mod_tell 62 .ireturn 1 63 := ⟨by decide +kernel, rfl⟩
theorem d_Mod_tell_63 : zd_l .aload_n .aload b_Mod_tell 63 0 64 := Or.inl ⟨0, rfl, by decide +kernel, rfl⟩
theorem d_Mod_tell_64 : zd_k b_Mod_tell "SameTuesdayModel" 64 3 65 := Or.inl ⟨3, by decide +kernel, by decide, rfl⟩
theorem d_Mod_tell_65 : zd b_Mod_tell 65 (.invokevirtual 239) 3 68 := ⟨by decide +kernel, rfl⟩
theorem d_Mod_tell_68 : zd_l .aload_n .aload b_Mod_tell 68 0 69 := Or.inl ⟨0, rfl, by decide +kernel, rfl⟩
theorem d_Mod_tell_69 : zd_k b_Mod_tell "SameTuesdayModel" 69 2 70 := Or.inl ⟨2, by decide +kernel, by decide, rfl⟩
theorem d_Mod_tell_70 : zd b_Mod_tell 70 (.invokevirtual 239) 3 73 := ⟨by decide +kernel, rfl⟩
theorem d_Mod_tell_73 : zd_l .aload_n .aload b_Mod_tell 73 0 74 := Or.inl ⟨0, rfl, by decide +kernel, rfl⟩
theorem d_Mod_tell_74 : zd_k b_Mod_tell "SameTuesdayModel" 74 1 75 := Or.inl ⟨1, by decide +kernel, by decide, rfl⟩
theorem d_Mod_tell_75 : zd b_Mod_tell 75 (.invokevirtual 239) 3 78 := ⟨by decide +kernel, rfl⟩
theorem d_Mod_tell_78 : zd_l .aload_n .aload b_Mod_tell 78 0 79 := Or.inl ⟨0, rfl, by decide +kernel, rfl⟩
theorem d_Mod_tell_79 : zd_k b_Mod_tell "SameTuesdayModel" 79 1 80 := Or.inl ⟨1, by decide +kernel, by decide, rfl⟩
theorem d_Mod_tell_80 : zd b_Mod_tell 80 (.invokevirtual 239) 3 83 := ⟨by decide +kernel, rfl⟩
theorem d_Mod_tell_83 : zd_k b_Mod_tell "SameTuesdayModel" 83 2 84 := Or.inl ⟨2, by decide +kernel, by decide, rfl⟩
theorem d_Mod_tell_84 : zd_l .iload_n .iload b_Mod_tell 84 2 85 := Or.inl ⟨2, rfl, by decide +kernel, rfl⟩
theorem d_Mod_tell_85 : zd b_Mod_tell 85 .imul 1 86 := ⟨by decide +kernel, rfl⟩
theorem d_Mod_tell_86 : zd_k b_Mod_tell "SameTuesdayModel" 86 100 88 := Or.inr (Or.inl ⟨100, by decide +kernel, by decide, rfl⟩)
theorem d_Mod_tell_88 : zd b_Mod_tell 88 .iadd 1 89 := ⟨by decide +kernel, rfl⟩
theorem d_Mod_tell_89 : zd b_Mod_tell 89 .ireturn 1 90 := ⟨by decide +kernel, rfl⟩
theorem d_Mod_tell_90 : zd_l .aload_n .aload b_Mod_tell 90 0 91 := Or.inl ⟨0, rfl, by decide +kernel, rfl⟩
theorem d_Mod_tell_91 : zd_k b_Mod_tell "SameTuesdayModel" 91 1 92 := Or.inl ⟨1, by decide +kernel, by decide, rfl⟩
theorem d_Mod_tell_92 : zd b_Mod_tell 92 (.invokevirtual 239) 3 95 := ⟨by decide +kernel, rfl⟩
theorem d_Mod_tell_95 : zd_l .iload_n .iload b_Mod_tell 95 2 96 := Or.inl ⟨2, rfl, by decide +kernel, rfl⟩
theorem d_Mod_tell_96 : zd b_Mod_tell 96 .ireturn 1 97 := ⟨by decide +kernel, rfl⟩
theorem d_Mod_rhyme_0 : zd_l .aload_n .aload b_Mod_rhyme 0 0 1 := Or.inl ⟨0, rfl, by decide +kernel, rfl⟩
theorem d_Mod_rhyme_1 : zd_l .iload_n .iload b_Mod_rhyme 1 1 2 := Or.inl ⟨1, rfl, by decide +kernel, rfl⟩
theorem d_Mod_rhyme_2 : zd b_Mod_rhyme 2 (.invokevirtual 140) 3 5 := ⟨by decide +kernel, rfl⟩
theorem d_Mod_rhyme_5 : zd_b b_Mod_rhyme 5 (.ifCond .ne) 8 10 := ⟨5, by decide +kernel, by decide, rfl⟩
theorem d_Mod_rhyme_8 : zd_k b_Mod_rhyme "SameTuesdayModel" 8 (-1) 9 := Or.inl ⟨(-1), by decide +kernel, by decide, rfl⟩
theorem d_Mod_rhyme_9 : zd b_Mod_rhyme 9 .ireturn 1 10 := ⟨by decide +kernel, rfl⟩
theorem d_Mod_rhyme_10 : zd_l .aload_n .aload b_Mod_rhyme 10 0 11 := Or.inl ⟨0, rfl, by decide +kernel, rfl⟩
theorem d_Mod_rhyme_11 : zd_l .aload_n .aload b_Mod_rhyme 11 0 12 := Or.inl ⟨0, rfl, by decide +kernel, rfl⟩
theorem d_Mod_rhyme_12 : zd b_Mod_rhyme 12 (.getfield 19) 3 15 := ⟨by decide +kernel, rfl⟩
theorem d_Mod_rhyme_15 : zd_l .iload_n .iload b_Mod_rhyme 15 1 16 := Or.inl ⟨1, rfl, by decide +kernel, rfl⟩
theorem d_Mod_rhyme_16 : zd b_Mod_rhyme 16 .iaload 1 17 := ⟨by decide +kernel, rfl⟩
theorem d_Mod_rhyme_17 : zd_k b_Mod_rhyme "SameTuesdayModel" 17 2 18 := Or.inl ⟨2, by decide +kernel, by decide, rfl⟩
theorem d_Mod_rhyme_18 : zd_b b_Mod_rhyme 18 (.if_icmp .ne) 21 25 := ⟨7, by decide +kernel, by decide, rfl⟩
theorem d_Mod_rhyme_21 : zd_k b_Mod_rhyme "SameTuesdayModel" 21 5 22 := Or.inl ⟨5, by decide +kernel, by decide, rfl⟩
theorem d_Mod_rhyme_22 : zd_b b_Mod_rhyme 22 .goto 25 26 := ⟨4, by decide +kernel, by decide, rfl⟩
theorem d_Mod_rhyme_25 : zd_k b_Mod_rhyme "SameTuesdayModel" 25 4 26 := Or.inl ⟨4, by decide +kernel, by decide, rfl⟩
theorem d_Mod_rhyme_26 : zd b_Mod_rhyme 26 (.invokevirtual 239) 3 29 := ⟨by decide +kernel, rfl⟩
theorem d_Mod_rhyme_29 : zd_l .aload_n .aload b_Mod_rhyme 29 0 30 := Or.inl ⟨0, rfl, by decide +kernel, rfl⟩
theorem d_Mod_rhyme_30 : zd b_Mod_rhyme 30 (.getfield 19) 3 33 := ⟨by decide +kernel, rfl⟩
theorem d_Mod_rhyme_33 : zd_l .iload_n .iload b_Mod_rhyme 33 1 34 := Or.inl ⟨1, rfl, by decide +kernel, rfl⟩
theorem d_Mod_rhyme_34 : zd b_Mod_rhyme 34 .iaload 1 35 := ⟨by decide +kernel, rfl⟩
theorem d_Mod_rhyme_35 : zd_k b_Mod_rhyme "SameTuesdayModel" 35 2 36 := Or.inl ⟨2, by decide +kernel, by decide, rfl⟩
theorem d_Mod_rhyme_36 : zd_b b_Mod_rhyme 36 (.if_icmp .ne) 39 44 := ⟨8, by decide +kernel, by decide, rfl⟩
theorem d_Mod_rhyme_39 : zd_k b_Mod_rhyme "SameTuesdayModel" 39 40 41 := Or.inr (Or.inl ⟨40, by decide +kernel, by decide, rfl⟩)
theorem d_Mod_rhyme_41 : zd_b b_Mod_rhyme 41 .goto 44 45 := ⟨4, by decide +kernel, by decide, rfl⟩
theorem d_Mod_rhyme_44 : zd_l .iload_n .iload b_Mod_rhyme 44 1 45 := Or.inl ⟨1, rfl, by decide +kernel, rfl⟩
theorem d_Mod_rhyme_45 : zd b_Mod_rhyme 45 .ireturn 1 46 := ⟨by decide +kernel, rfl⟩
theorem d_Mod_as_0 : zd_l .aload_n .aload b_Mod_as 0 0 1 := Or.inl ⟨0, rfl, by decide +kernel, rfl⟩
theorem d_Mod_as_1 : zd_k b_Mod_as "SameTuesdayModel" 1 0 2 := Or.inl ⟨0, by decide +kernel, by decide, rfl⟩
theorem d_Mod_as_2 : zd b_Mod_as 2 (.putfield 78) 3 5 := ⟨by decide +kernel, rfl⟩
theorem d_Mod_as_5 : zd_l .aload_n .aload b_Mod_as 5 0 6 := Or.inl ⟨0, rfl, by decide +kernel, rfl⟩
theorem d_Mod_as_6 : zd_l .iload_n .iload b_Mod_as 6 1 7 := Or.inl ⟨1, rfl, by decide +kernel, rfl⟩
theorem d_Mod_as_7 : zd b_Mod_as 7 (.invokevirtual 140) 3 10 := ⟨by decide +kernel, rfl⟩
theorem d_Mod_as_10 : zd_b b_Mod_as 10 (.ifCond .ne) 13 15 := ⟨5, by decide +kernel, by decide, rfl⟩
theorem d_Mod_as_13 : zd_k b_Mod_as "SameTuesdayModel" 13 (-1) 14 := Or.inl ⟨(-1), by decide +kernel, by decide, rfl⟩
theorem d_Mod_as_14 : zd b_Mod_as 14 .ireturn 1 15 := ⟨by decide +kernel, rfl⟩
theorem d_Mod_as_15 : zd_l .iload_n .iload b_Mod_as 15 2 16 := Or.inl ⟨2, rfl, by decide +kernel, rfl⟩
theorem d_Mod_as_16 : zd_k b_Mod_as "SameTuesdayModel" 16 0 17 := Or.inl ⟨0, by decide +kernel, by decide, rfl⟩
theorem d_Mod_as_17 : zd_k b_Mod_as "SameTuesdayModel" 17 2 18 := Or.inl ⟨2, by decide +kernel, by decide, rfl⟩
theorem d_Mod_as_18 : zd b_Mod_as 18 (.invokestatic 83) 3 21 := ⟨by decide +kernel, rfl⟩
theorem d_Mod_as_21 : zd_b b_Mod_as 21 (.ifCond .ne) 24 27 := ⟨6, by decide +kernel, by decide, rfl⟩
theorem d_Mod_as_24 : zd_k b_Mod_as "SameTuesdayModel" 24 (-2) 26 := Or.inr (Or.inl ⟨(-2), by decide +kernel, by decide, rfl⟩)
theorem d_Mod_as_26 : zd b_Mod_as 26 .ireturn 1 27 := ⟨by decide +kernel, rfl⟩
theorem d_Mod_as_27 : zd_l .aload_n .aload b_Mod_as 27 0 28 := Or.inl ⟨0, rfl, by decide +kernel, rfl⟩
theorem d_Mod_as_28 : zd b_Mod_as 28 (.getfield 19) 3 31 := ⟨by decide +kernel, rfl⟩
theorem d_Mod_as_31 : zd_l .iload_n .iload b_Mod_as 31 1 32 := Or.inl ⟨1, rfl, by decide +kernel, rfl⟩
theorem d_Mod_as_32 : zd b_Mod_as 32 .iaload 1 33 := ⟨by decide +kernel, rfl⟩
theorem d_Mod_as_33 : zd_l .iload_n .iload b_Mod_as 33 2 34 := Or.inl ⟨2, rfl, by decide +kernel, rfl⟩
theorem d_Mod_as_34 : zd_b b_Mod_as 34 (.if_icmp .lt) 37 41 := ⟨7, by decide +kernel, by decide, rfl⟩
theorem d_Mod_as_37 : zd_k b_Mod_as "SameTuesdayModel" 37 1 38 := Or.inl ⟨1, by decide +kernel, by decide, rfl⟩
theorem d_Mod_as_38 : zd_b b_Mod_as 38 .goto 41 46 := ⟨8, by decide +kernel, by decide, rfl⟩
theorem d_Mod_as_41 : zd_l .aload_n .aload b_Mod_as 41 0 42 := Or.inl ⟨0, rfl, by decide +kernel, rfl⟩
theorem d_Mod_as_42 : zd_k b_Mod_as "SameTuesdayModel" 42 2 43 := Or.inl ⟨2, by decide +kernel, by decide, rfl⟩
theorem d_Mod_as_43 : zd b_Mod_as 43 (.invokevirtual 107) 3 46 := ⟨by decide +kernel, rfl⟩
theorem d_Mod_as_46 : zd b_Mod_as 46 .ireturn 1 47 := ⟨by decide +kernel, rfl⟩
theorem d_Mod_trace_0 : zd_l .aload_n .aload b_Mod_trace 0 0 1 := Or.inl ⟨0, rfl, by decide +kernel, rfl⟩
theorem d_Mod_trace_1 : zd b_Mod_trace 1 (.getfield 236) 3 4 := ⟨by decide +kernel, rfl⟩
theorem d_Mod_trace_4 : zd b_Mod_trace 4 .ireturn 1 5 := ⟨by decide +kernel, rfl⟩
theorem d_Mod_fault_0 : zd_l .aload_n .aload b_Mod_fault 0 0 1 := Or.inl ⟨0, rfl, by decide +kernel, rfl⟩
theorem d_Mod_fault_1 : zd b_Mod_fault 1 (.getfield 78) 3 4 := ⟨by decide +kernel, rfl⟩
theorem d_Mod_fault_4 : zd b_Mod_fault 4 .ireturn 1 5 := ⟨by decide +kernel, rfl⟩
theorem d_Mod_many_0 : zd_l .iload_n .iload b_Mod_many 0 1 1 := Or.inl ⟨1, rfl, by decide +kernel, rfl⟩
theorem d_Mod_many_1 : zd_b b_Mod_many 1 (.ifCond .ne) 4 11 := ⟨10, by decide +kernel, by decide, rfl⟩
theorem d_Mod_many_4 : zd_l .aload_n .aload b_Mod_many 4 0 5 := Or.inl ⟨0, rfl, by decide +kernel, rfl⟩
theorem d_Mod_many_5 : zd b_Mod_many 5 (.getfield 87) 3 8 := ⟨by decide +kernel, rfl⟩
theorem d_Mod_many_8 : zd_b b_Mod_many 8 .goto 11 49 := ⟨41, by decide +kernel, by decide, rfl⟩
theorem d_Mod_many_11 : zd_l .iload_n .iload b_Mod_many 11 1 12 := Or.inl ⟨1, rfl, by decide +kernel, rfl⟩
theorem d_Mod_many_12 : zd_k b_Mod_many "SameTuesdayModel" 12 1 13 := Or.inl ⟨1, by decide +kernel, by decide, rfl⟩
theorem d_Mod_many_13 : zd_b b_Mod_many 13 (.if_icmp .ne) 16 23 := ⟨10, by decide +kernel, by decide, rfl⟩
theorem d_Mod_many_16 : zd_l .aload_n .aload b_Mod_many 16 0 17 := Or.inl ⟨0, rfl, by decide +kernel, rfl⟩
theorem d_Mod_many_17 : zd b_Mod_many 17 (.getfield 90) 3 20 := ⟨by decide +kernel, rfl⟩
theorem d_Mod_many_20 : zd_b b_Mod_many 20 .goto 23 49 := ⟨29, by decide +kernel, by decide, rfl⟩
theorem d_Mod_many_23 : zd_l .iload_n .iload b_Mod_many 23 1 24 := Or.inl ⟨1, rfl, by decide +kernel, rfl⟩
theorem d_Mod_many_24 : zd_k b_Mod_many "SameTuesdayModel" 24 2 25 := Or.inl ⟨2, by decide +kernel, by decide, rfl⟩
theorem d_Mod_many_25 : zd_b b_Mod_many 25 (.if_icmp .ne) 28 35 := ⟨10, by decide +kernel, by decide, rfl⟩
theorem d_Mod_many_28 : zd_l .aload_n .aload b_Mod_many 28 0 29 := Or.inl ⟨0, rfl, by decide +kernel, rfl⟩
theorem d_Mod_many_29 : zd b_Mod_many 29 (.getfield 120) 3 32 := ⟨by decide +kernel, rfl⟩
theorem d_Mod_many_32 : zd_b b_Mod_many 32 .goto 35 49 := ⟨17, by decide +kernel, by decide, rfl⟩
theorem d_Mod_many_35 : zd_l .iload_n .iload b_Mod_many 35 1 36 := Or.inl ⟨1, rfl, by decide +kernel, rfl⟩
theorem d_Mod_many_36 : zd_k b_Mod_many "SameTuesdayModel" 36 3 37 := Or.inl ⟨3, by decide +kernel, by decide, rfl⟩
theorem d_Mod_many_37 : zd_b b_Mod_many 37 (.if_icmp .ne) 40 47 := ⟨10, by decide +kernel, by decide, rfl⟩
theorem d_Mod_many_40 : zd_l .aload_n .aload b_Mod_many 40 0 41 := Or.inl ⟨0, rfl, by decide +kernel, rfl⟩
theorem d_Mod_many_41 : zd b_Mod_many 41 (.getfield 123) 3 44 := ⟨by decide +kernel, rfl⟩
theorem d_Mod_many_44 : zd_b b_Mod_many 44 .goto 47 49 := ⟨5, by decide +kernel, by decide, rfl⟩
theorem d_Mod_many_47 : zd_k b_Mod_many "SameTuesdayModel" 47 (-2) 49 := Or.inr (Or.inl ⟨(-2), by decide +kernel, by decide, rfl⟩)
theorem d_Mod_many_49 : zd b_Mod_many 49 .ireturn 1 50 := ⟨by decide +kernel, rfl⟩
end
section
set_option maxRecDepth 20000 in
theorem l_LawX_9 : zl_I "SameTuesdayLaw" 9 y_Tue_init b_Tue_init 2 0 := ⟨⟨zb_mem 69 rfl rfl, zb_mem 50 rfl rfl, zb_mem 71 rfl rfl, by decide, by decide +kernel⟩, rfl, zb_mem 70 rfl rfl⟩
set_option maxRecDepth 20000 in
theorem l_LawX_12 : zl_I "SameTuesdayLaw" 12 y_Mod_init b_Mod_init 1 0 := ⟨⟨zb_mem 901 rfl rfl, zb_mem 57 rfl rfl, zb_mem 903 rfl rfl, by decide, by decide +kernel⟩, rfl, zb_mem 902 rfl rfl⟩
set_option maxRecDepth 20000 in
theorem l_LawX_13 : zl_V "SameTuesdayLaw" 13 y_Tue_tuesday b_Tue_tuesday 9 (some .int) 4 := ⟨⟨zb_mem 233 rfl rfl, zb_mem 50 rfl rfl, zb_mem 236 rfl rfl, by decide, by decide +kernel⟩, zb_mem 234 rfl rfl, zb_mem 235 rfl rfl⟩
set_option maxRecDepth 20000 in
theorem l_LawX_17 : zl_V "SameTuesdayLaw" 17 y_Mod_tuesday b_Mod_tuesday 8 (some .int) 4 := ⟨⟨zb_mem 1009 rfl rfl, zb_mem 57 rfl rfl, zb_mem 1012 rfl rfl, by decide, by decide +kernel⟩, zb_mem 1010 rfl rfl, zb_mem 1011 rfl rfl⟩
set_option maxRecDepth 20000 in
theorem l_LawX_18 : zl_V "SameTuesdayLaw" 18 y_Tue_ofHappening b_Tue_ofHappening 4 (some .int) 2 := ⟨⟨zb_mem 475 rfl rfl, zb_mem 50 rfl rfl, zb_mem 478 rfl rfl, by decide, by decide +kernel⟩, zb_mem 476 rfl rfl, zb_mem 477 rfl rfl⟩
set_option maxRecDepth 20000 in
theorem l_LawX_22 : zl_V "SameTuesdayLaw" 22 y_Mod_ofHappening b_Mod_ofHappening 3 (some .int) 2 := ⟨⟨zb_mem 1050 rfl rfl, zb_mem 57 rfl rfl, zb_mem 1053 rfl rfl, by decide, by decide +kernel⟩, zb_mem 1051 rfl rfl, zb_mem 1052 rfl rfl⟩
set_option maxRecDepth 20000 in
theorem l_LawX_23 : zl_V "SameTuesdayLaw" 23 y_Tue_ofDeed b_Tue_ofDeed 4 (some .int) 2 := ⟨⟨zb_mem 491 rfl rfl, zb_mem 50 rfl rfl, zb_mem 494 rfl rfl, by decide, by decide +kernel⟩, zb_mem 492 rfl rfl, zb_mem 493 rfl rfl⟩
set_option maxRecDepth 20000 in
theorem l_LawX_26 : zl_V "SameTuesdayLaw" 26 y_Mod_ofDeed b_Mod_ofDeed 3 (some .int) 2 := ⟨⟨zb_mem 1058 rfl rfl, zb_mem 57 rfl rfl, zb_mem 1061 rfl rfl, by decide, by decide +kernel⟩, zb_mem 1059 rfl rfl, zb_mem 1060 rfl rfl⟩
set_option maxRecDepth 20000 in
theorem l_LawX_27 : zl_V "SameTuesdayLaw" 27 y_Tue_minutes b_Tue_minutes 3 (some .int) 1 := ⟨⟨zb_mem 499 rfl rfl, zb_mem 50 rfl rfl, zb_mem 502 rfl rfl, by decide, by decide +kernel⟩, zb_mem 500 rfl rfl, zb_mem 501 rfl rfl⟩
set_option maxRecDepth 20000 in
theorem l_LawX_31 : zl_V "SameTuesdayLaw" 31 y_Mod_minutes b_Mod_minutes 3 (some .int) 1 := ⟨⟨zb_mem 1066 rfl rfl, zb_mem 57 rfl rfl, zb_mem 1069 rfl rfl, by decide, by decide +kernel⟩, zb_mem 1067 rfl rfl, zb_mem 1068 rfl rfl⟩
set_option maxRecDepth 20000 in
theorem l_LawX_32 : zl_V "SameTuesdayLaw" 32 y_Tue_shift b_Tue_shift 5 (some .int) 2 := ⟨⟨zb_mem 515 rfl rfl, zb_mem 50 rfl rfl, zb_mem 518 rfl rfl, by decide, by decide +kernel⟩, zb_mem 516 rfl rfl, zb_mem 517 rfl rfl⟩
set_option maxRecDepth 20000 in
theorem l_LawX_35 : zl_V "SameTuesdayLaw" 35 y_Mod_shift b_Mod_shift 4 (some .int) 2 := ⟨⟨zb_mem 1070 rfl rfl, zb_mem 57 rfl rfl, zb_mem 1073 rfl rfl, by decide, by decide +kernel⟩, zb_mem 1071 rfl rfl, zb_mem 1072 rfl rfl⟩
set_option maxRecDepth 20000 in
theorem l_LawX_36 : zl_V "SameTuesdayLaw" 36 y_Tue_live b_Tue_live 8 (some .int) 5 := ⟨⟨zb_mem 526 rfl rfl, zb_mem 50 rfl rfl, zb_mem 529 rfl rfl, by decide, by decide +kernel⟩, zb_mem 527 rfl rfl, zb_mem 528 rfl rfl⟩
set_option maxRecDepth 20000 in
theorem l_LawX_40 : zl_V "SameTuesdayLaw" 40 y_Mod_live b_Mod_live 9 (some .int) 5 := ⟨⟨zb_mem 1074 rfl rfl, zb_mem 57 rfl rfl, zb_mem 1077 rfl rfl, by decide, by decide +kernel⟩, zb_mem 1075 rfl rfl, zb_mem 1076 rfl rfl⟩
set_option maxRecDepth 20000 in
theorem l_LawX_41 : zl_V "SameTuesdayLaw" 41 y_Tue_at b_Tue_at 7 (some .int) 5 := ⟨⟨zb_mem 612 rfl rfl, zb_mem 50 rfl rfl, zb_mem 615 rfl rfl, by decide, by decide +kernel⟩, zb_mem 613 rfl rfl, zb_mem 614 rfl rfl⟩
set_option maxRecDepth 20000 in
theorem l_LawX_44 : zl_V "SameTuesdayLaw" 44 y_Mod_at b_Mod_at 7 (some .int) 5 := ⟨⟨zb_mem 1112 rfl rfl, zb_mem 57 rfl rfl, zb_mem 1115 rfl rfl, by decide, by decide +kernel⟩, zb_mem 1113 rfl rfl, zb_mem 1114 rfl rfl⟩
set_option maxRecDepth 20000 in
theorem l_LawX_45 : zl_V "SameTuesdayLaw" 45 y_Tue_hangs b_Tue_hangs 6 (some .int) 4 := ⟨⟨zb_mem 616 rfl rfl, zb_mem 50 rfl rfl, zb_mem 619 rfl rfl, by decide, by decide +kernel⟩, zb_mem 617 rfl rfl, zb_mem 618 rfl rfl⟩
set_option maxRecDepth 20000 in
theorem l_LawX_48 : zl_V "SameTuesdayLaw" 48 y_Mod_hangs b_Mod_hangs 9 (some .int) 4 := ⟨⟨zb_mem 1116 rfl rfl, zb_mem 57 rfl rfl, zb_mem 1119 rfl rfl, by decide, by decide +kernel⟩, zb_mem 1117 rfl rfl, zb_mem 1118 rfl rfl⟩
set_option maxRecDepth 20000 in
theorem l_LawX_49 : zl_V "SameTuesdayLaw" 49 y_Tue_can b_Tue_can 3 (some .int) 2 := ⟨⟨zb_mem 626 rfl rfl, zb_mem 50 rfl rfl, zb_mem 629 rfl rfl, by decide, by decide +kernel⟩, zb_mem 627 rfl rfl, zb_mem 628 rfl rfl⟩
set_option maxRecDepth 20000 in
theorem l_LawX_52 : zl_V "SameTuesdayLaw" 52 y_Mod_can b_Mod_can 3 (some .int) 2 := ⟨⟨zb_mem 1120 rfl rfl, zb_mem 57 rfl rfl, zb_mem 1123 rfl rfl, by decide, by decide +kernel⟩, zb_mem 1121 rfl rfl, zb_mem 1122 rfl rfl⟩
set_option maxRecDepth 20000 in
theorem l_LawX_53 : zl_V "SameTuesdayLaw" 53 y_Tue_soonest b_Tue_soonest 2 (some .int) 1 := ⟨⟨zb_mem 669 rfl rfl, zb_mem 50 rfl rfl, zb_mem 672 rfl rfl, by decide, by decide +kernel⟩, zb_mem 670 rfl rfl, zb_mem 671 rfl rfl⟩
set_option maxRecDepth 20000 in
theorem l_LawX_56 : zl_V "SameTuesdayLaw" 56 y_Mod_soonest b_Mod_soonest 3 (some .int) 1 := ⟨⟨zb_mem 1162 rfl rfl, zb_mem 57 rfl rfl, zb_mem 1165 rfl rfl, by decide, by decide +kernel⟩, zb_mem 1163 rfl rfl, zb_mem 1164 rfl rfl⟩
set_option maxRecDepth 20000 in
theorem l_LawX_57 : zl_V "SameTuesdayLaw" 57 y_Tue_bar b_Tue_bar 2 (some .int) 1 := ⟨⟨zb_mem 682 rfl rfl, zb_mem 50 rfl rfl, zb_mem 685 rfl rfl, by decide, by decide +kernel⟩, zb_mem 683 rfl rfl, zb_mem 684 rfl rfl⟩
set_option maxRecDepth 20000 in
theorem l_LawX_60 : zl_V "SameTuesdayLaw" 60 y_Mod_bar b_Mod_bar 5 (some .int) 1 := ⟨⟨zb_mem 1170 rfl rfl, zb_mem 57 rfl rfl, zb_mem 1173 rfl rfl, by decide, by decide +kernel⟩, zb_mem 1171 rfl rfl, zb_mem 1172 rfl rfl⟩
set_option maxRecDepth 20000 in
theorem l_LawX_61 : zl_V "SameTuesdayLaw" 61 y_Tue_day b_Tue_day 2 (some .int) 1 := ⟨⟨zb_mem 690 rfl rfl, zb_mem 50 rfl rfl, zb_mem 693 rfl rfl, by decide, by decide +kernel⟩, zb_mem 691 rfl rfl, zb_mem 692 rfl rfl⟩
set_option maxRecDepth 20000 in
theorem l_LawX_64 : zl_V "SameTuesdayLaw" 64 y_Mod_day b_Mod_day 2 (some .int) 1 := ⟨⟨zb_mem 1174 rfl rfl, zb_mem 57 rfl rfl, zb_mem 1177 rfl rfl, by decide, by decide +kernel⟩, zb_mem 1175 rfl rfl, zb_mem 1176 rfl rfl⟩
set_option maxRecDepth 20000 in
theorem l_LawX_65 : zl_V "SameTuesdayLaw" 65 y_Tue_forget b_Tue_forget 2 (some .int) 1 := ⟨⟨zb_mem 702 rfl rfl, zb_mem 50 rfl rfl, zb_mem 705 rfl rfl, by decide, by decide +kernel⟩, zb_mem 703 rfl rfl, zb_mem 704 rfl rfl⟩
set_option maxRecDepth 20000 in
theorem l_LawX_68 : zl_V "SameTuesdayLaw" 68 y_Mod_forget b_Mod_forget 2 (some .int) 1 := ⟨⟨zb_mem 1178 rfl rfl, zb_mem 57 rfl rfl, zb_mem 1181 rfl rfl, by decide, by decide +kernel⟩, zb_mem 1179 rfl rfl, zb_mem 1180 rfl rfl⟩
set_option maxRecDepth 20000 in
theorem l_LawX_69 : zl_V "SameTuesdayLaw" 69 y_Tue_laws b_Tue_laws 2 (some .int) 1 := ⟨⟨zb_mem 706 rfl rfl, zb_mem 50 rfl rfl, zb_mem 709 rfl rfl, by decide, by decide +kernel⟩, zb_mem 707 rfl rfl, zb_mem 708 rfl rfl⟩
set_option maxRecDepth 20000 in
theorem l_LawX_72 : zl_V "SameTuesdayLaw" 72 y_Mod_laws b_Mod_laws 4 (some .int) 1 := ⟨⟨zb_mem 1182 rfl rfl, zb_mem 57 rfl rfl, zb_mem 1185 rfl rfl, by decide, by decide +kernel⟩, zb_mem 1183 rfl rfl, zb_mem 1184 rfl rfl⟩
set_option maxRecDepth 20000 in
theorem l_LawX_73 : zl_V "SameTuesdayLaw" 73 y_Tue_fewest b_Tue_fewest 1 (some .int) 0 := ⟨⟨zb_mem 730 rfl rfl, zb_mem 50 rfl rfl, zb_mem 733 rfl rfl, by decide, by decide +kernel⟩, zb_mem 731 rfl rfl, zb_mem 732 rfl rfl⟩
set_option maxRecDepth 20000 in
theorem l_LawX_77 : zl_V "SameTuesdayLaw" 77 y_Mod_fewest b_Mod_fewest 3 (some .int) 0 := ⟨⟨zb_mem 1190 rfl rfl, zb_mem 57 rfl rfl, zb_mem 1193 rfl rfl, by decide, by decide +kernel⟩, zb_mem 1191 rfl rfl, zb_mem 1192 rfl rfl⟩
set_option maxRecDepth 20000 in
theorem l_LawX_78 : zl_V "SameTuesdayLaw" 78 y_Tue_next b_Tue_next 3 (some .int) 1 := ⟨⟨zb_mem 744 rfl rfl, zb_mem 50 rfl rfl, zb_mem 747 rfl rfl, by decide, by decide +kernel⟩, zb_mem 745 rfl rfl, zb_mem 746 rfl rfl⟩
set_option maxRecDepth 20000 in
theorem l_LawX_81 : zl_V "SameTuesdayLaw" 81 y_Mod_next b_Mod_next 5 (some .int) 1 := ⟨⟨zb_mem 1197 rfl rfl, zb_mem 57 rfl rfl, zb_mem 1200 rfl rfl, by decide, by decide +kernel⟩, zb_mem 1198 rfl rfl, zb_mem 1199 rfl rfl⟩
set_option maxRecDepth 20000 in
theorem l_LawX_82 : zl_V "SameTuesdayLaw" 82 y_Tue_others b_Tue_others 8 (some .int) 6 := ⟨⟨zb_mem 758 rfl rfl, zb_mem 50 rfl rfl, zb_mem 761 rfl rfl, by decide, by decide +kernel⟩, zb_mem 759 rfl rfl, zb_mem 760 rfl rfl⟩
set_option maxRecDepth 20000 in
theorem l_LawX_86 : zl_V "SameTuesdayLaw" 86 y_Mod_others b_Mod_others 12 (some .int) 6 := ⟨⟨zb_mem 1205 rfl rfl, zb_mem 57 rfl rfl, zb_mem 1208 rfl rfl, by decide, by decide +kernel⟩, zb_mem 1206 rfl rfl, zb_mem 1207 rfl rfl⟩
set_option maxRecDepth 20000 in
theorem l_LawX_87 : zl_V "SameTuesdayLaw" 87 y_Tue_odds b_Tue_odds 11 (some .long) 6 := ⟨⟨zb_mem 775 rfl rfl, zb_mem 50 rfl rfl, zb_mem 778 rfl rfl, by decide, by decide +kernel⟩, zb_mem 776 rfl rfl, zb_mem 777 rfl rfl⟩
set_option maxRecDepth 20000 in
theorem l_LawX_91 : zl_V "SameTuesdayLaw" 91 y_Mod_odds b_Mod_odds 9 (some .long) 6 := ⟨⟨zb_mem 1209 rfl rfl, zb_mem 57 rfl rfl, zb_mem 1212 rfl rfl, by decide, by decide +kernel⟩, zb_mem 1210 rfl rfl, zb_mem 1211 rfl rfl⟩
set_option maxRecDepth 20000 in
theorem l_LawX_92 : zl_V "SameTuesdayLaw" 92 y_Tue_sheet b_Tue_sheet 5 (some .int) 3 := ⟨⟨zb_mem 787 rfl rfl, zb_mem 50 rfl rfl, zb_mem 790 rfl rfl, by decide, by decide +kernel⟩, zb_mem 788 rfl rfl, zb_mem 789 rfl rfl⟩
set_option maxRecDepth 20000 in
theorem l_LawX_96 : zl_V "SameTuesdayLaw" 96 y_Mod_sheet b_Mod_sheet 5 (some .int) 3 := ⟨⟨zb_mem 1217 rfl rfl, zb_mem 57 rfl rfl, zb_mem 1220 rfl rfl, by decide, by decide +kernel⟩, zb_mem 1218 rfl rfl, zb_mem 1219 rfl rfl⟩
set_option maxRecDepth 20000 in
theorem l_LawX_97 : zl_V "SameTuesdayLaw" 97 y_Tue_lose b_Tue_lose 4 (some .int) 1 := ⟨⟨zb_mem 797 rfl rfl, zb_mem 50 rfl rfl, zb_mem 800 rfl rfl, by decide, by decide +kernel⟩, zb_mem 798 rfl rfl, zb_mem 799 rfl rfl⟩
set_option maxRecDepth 20000 in
theorem l_LawX_100 : zl_V "SameTuesdayLaw" 100 y_Mod_lose b_Mod_lose 3 (some .int) 1 := ⟨⟨zb_mem 1221 rfl rfl, zb_mem 57 rfl rfl, zb_mem 1224 rfl rfl, by decide, by decide +kernel⟩, zb_mem 1222 rfl rfl, zb_mem 1223 rfl rfl⟩
set_option maxRecDepth 20000 in
theorem l_LawX_101 : zl_V "SameTuesdayLaw" 101 y_Tue_put b_Tue_put 5 (some .int) 3 := ⟨⟨zb_mem 805 rfl rfl, zb_mem 50 rfl rfl, zb_mem 808 rfl rfl, by decide, by decide +kernel⟩, zb_mem 806 rfl rfl, zb_mem 807 rfl rfl⟩
set_option maxRecDepth 20000 in
theorem l_LawX_104 : zl_V "SameTuesdayLaw" 104 y_Mod_put b_Mod_put 4 (some .int) 3 := ⟨⟨zb_mem 1225 rfl rfl, zb_mem 57 rfl rfl, zb_mem 1228 rfl rfl, by decide, by decide +kernel⟩, zb_mem 1226 rfl rfl, zb_mem 1227 rfl rfl⟩
set_option maxRecDepth 20000 in
theorem l_LawX_105 : zl_V "SameTuesdayLaw" 105 y_Tue_cell b_Tue_cell 5 (some .long) 3 := ⟨⟨zb_mem 813 rfl rfl, zb_mem 50 rfl rfl, zb_mem 816 rfl rfl, by decide, by decide +kernel⟩, zb_mem 814 rfl rfl, zb_mem 815 rfl rfl⟩
set_option maxRecDepth 20000 in
theorem l_LawX_109 : zl_V "SameTuesdayLaw" 109 y_Mod_cell b_Mod_cell 4 (some .long) 3 := ⟨⟨zb_mem 1229 rfl rfl, zb_mem 57 rfl rfl, zb_mem 1232 rfl rfl, by decide, by decide +kernel⟩, zb_mem 1230 rfl rfl, zb_mem 1231 rfl rfl⟩
set_option maxRecDepth 20000 in
theorem l_LawX_110 : zl_V "SameTuesdayLaw" 110 y_Tue_copy b_Tue_copy 8 (some .int) 5 := ⟨⟨zb_mem 818 rfl rfl, zb_mem 50 rfl rfl, zb_mem 821 rfl rfl, by decide, by decide +kernel⟩, zb_mem 819 rfl rfl, zb_mem 820 rfl rfl⟩
set_option maxRecDepth 20000 in
theorem l_LawX_113 : zl_V "SameTuesdayLaw" 113 y_Mod_copy b_Mod_copy 10 (some .int) 5 := ⟨⟨zb_mem 1237 rfl rfl, zb_mem 57 rfl rfl, zb_mem 1240 rfl rfl, by decide, by decide +kernel⟩, zb_mem 1238 rfl rfl, zb_mem 1239 rfl rfl⟩
set_option maxRecDepth 20000 in
theorem l_LawX_114 : zl_V "SameTuesdayLaw" 114 y_Tue_tell b_Tue_tell 3 (some .int) 1 := ⟨⟨zb_mem 832 rfl rfl, zb_mem 50 rfl rfl, zb_mem 835 rfl rfl, by decide, by decide +kernel⟩, zb_mem 833 rfl rfl, zb_mem 834 rfl rfl⟩
set_option maxRecDepth 20000 in
theorem l_LawX_117 : zl_V "SameTuesdayLaw" 117 y_Mod_tell b_Mod_tell 3 (some .int) 1 := ⟨⟨zb_mem 1241 rfl rfl, zb_mem 57 rfl rfl, zb_mem 1244 rfl rfl, by decide, by decide +kernel⟩, zb_mem 1242 rfl rfl, zb_mem 1243 rfl rfl⟩
set_option maxRecDepth 20000 in
theorem l_LawX_118 : zl_V "SameTuesdayLaw" 118 y_Tue_rhyme b_Tue_rhyme 3 (some .int) 1 := ⟨⟨zb_mem 865 rfl rfl, zb_mem 50 rfl rfl, zb_mem 868 rfl rfl, by decide, by decide +kernel⟩, zb_mem 866 rfl rfl, zb_mem 867 rfl rfl⟩
set_option maxRecDepth 20000 in
theorem l_LawX_121 : zl_V "SameTuesdayLaw" 121 y_Mod_rhyme b_Mod_rhyme 2 (some .int) 1 := ⟨⟨zb_mem 1249 rfl rfl, zb_mem 57 rfl rfl, zb_mem 1252 rfl rfl, by decide, by decide +kernel⟩, zb_mem 1250 rfl rfl, zb_mem 1251 rfl rfl⟩
set_option maxRecDepth 20000 in
theorem l_LawX_122 : zl_V "SameTuesdayLaw" 122 y_Tue_as b_Tue_as 4 (some .int) 2 := ⟨⟨zb_mem 878 rfl rfl, zb_mem 50 rfl rfl, zb_mem 881 rfl rfl, by decide, by decide +kernel⟩, zb_mem 879 rfl rfl, zb_mem 880 rfl rfl⟩
set_option maxRecDepth 20000 in
theorem l_LawX_125 : zl_V "SameTuesdayLaw" 125 y_Mod_as b_Mod_as 3 (some .int) 2 := ⟨⟨zb_mem 1253 rfl rfl, zb_mem 57 rfl rfl, zb_mem 1256 rfl rfl, by decide, by decide +kernel⟩, zb_mem 1254 rfl rfl, zb_mem 1255 rfl rfl⟩
set_option maxRecDepth 20000 in
theorem l_LawX_126 : zl_V "SameTuesdayLaw" 126 y_Tue_trace b_Tue_trace 1 (some .int) 0 := ⟨⟨zb_mem 882 rfl rfl, zb_mem 50 rfl rfl, zb_mem 885 rfl rfl, by decide, by decide +kernel⟩, zb_mem 883 rfl rfl, zb_mem 884 rfl rfl⟩
set_option maxRecDepth 20000 in
theorem l_LawX_129 : zl_V "SameTuesdayLaw" 129 y_Mod_trace b_Mod_trace 1 (some .int) 0 := ⟨⟨zb_mem 1257 rfl rfl, zb_mem 57 rfl rfl, zb_mem 1260 rfl rfl, by decide, by decide +kernel⟩, zb_mem 1258 rfl rfl, zb_mem 1259 rfl rfl⟩
set_option maxRecDepth 20000 in
theorem l_LawX_130 : zl_V "SameTuesdayLaw" 130 y_Tue_fault b_Tue_fault 1 (some .int) 0 := ⟨⟨zb_mem 890 rfl rfl, zb_mem 50 rfl rfl, zb_mem 893 rfl rfl, by decide, by decide +kernel⟩, zb_mem 891 rfl rfl, zb_mem 892 rfl rfl⟩
set_option maxRecDepth 20000 in
theorem l_LawX_133 : zl_V "SameTuesdayLaw" 133 y_Mod_fault b_Mod_fault 1 (some .int) 0 := ⟨⟨zb_mem 1261 rfl rfl, zb_mem 57 rfl rfl, zb_mem 1264 rfl rfl, by decide, by decide +kernel⟩, zb_mem 1262 rfl rfl, zb_mem 1263 rfl rfl⟩
set_option maxRecDepth 20000 in
theorem l_LawX_134 : zl_V "SameTuesdayLaw" 134 y_Tue_many b_Tue_many 2 (some .int) 1 := ⟨⟨zb_mem 894 rfl rfl, zb_mem 50 rfl rfl, zb_mem 897 rfl rfl, by decide, by decide +kernel⟩, zb_mem 895 rfl rfl, zb_mem 896 rfl rfl⟩
set_option maxRecDepth 20000 in
theorem l_LawX_137 : zl_V "SameTuesdayLaw" 137 y_Mod_many b_Mod_many 2 (some .int) 1 := ⟨⟨zb_mem 1265 rfl rfl, zb_mem 57 rfl rfl, zb_mem 1268 rfl rfl, by decide, by decide +kernel⟩, zb_mem 1266 rfl rfl, zb_mem 1267 rfl rfl⟩
theorem d_LawX_law_0 : zd b_LawX_law 0 (.new 7) 3 3 := ⟨by decide +kernel, rfl⟩
theorem d_LawX_law_3 : zd b_LawX_law 3 .dup 1 4 := ⟨by decide +kernel, rfl⟩
theorem d_LawX_law_4 : zd b_LawX_law 4 (.invokespecial 9) 3 7 := ⟨by decide +kernel, rfl⟩
theorem d_LawX_law_7 : zd_l .astore_n .astore b_LawX_law 7 1 8 := Or.inl ⟨1, rfl, by decide +kernel, rfl⟩
theorem d_LawX_law_8 : zd b_LawX_law 8 (.new 10) 3 11 := ⟨by decide +kernel, rfl⟩
theorem d_LawX_law_11 : zd b_LawX_law 11 .dup 1 12 := ⟨by decide +kernel, rfl⟩
theorem d_LawX_law_12 : zd b_LawX_law 12 (.invokespecial 12) 3 15 := ⟨by decide +kernel, rfl⟩
theorem d_LawX_law_15 : zd_l .astore_n .astore b_LawX_law 15 2 16 := Or.inl ⟨2, rfl, by decide +kernel, rfl⟩
theorem d_LawX_law_16 : zd_k b_LawX_law "SameTuesdayLaw" 16 0 17 := Or.inl ⟨0, by decide +kernel, by decide, rfl⟩
theorem d_LawX_law_17 : zd_l .istore_n .istore b_LawX_law 17 3 18 := Or.inl ⟨3, rfl, by decide +kernel, rfl⟩
theorem d_LawX_law_18 : zd_l .iload_n .iload b_LawX_law 18 3 19 := Or.inl ⟨3, rfl, by decide +kernel, rfl⟩
theorem d_LawX_law_19 : zd_l .aload_n .aload b_LawX_law 19 0 20 := Or.inl ⟨0, rfl, by decide +kernel, rfl⟩
theorem d_LawX_law_20 : zd b_LawX_law 20 .arraylength 1 21 := ⟨by decide +kernel, rfl⟩
theorem d_LawX_law_21 : zd_k b_LawX_law "SameTuesdayLaw" 21 7 23 := Or.inr (Or.inl ⟨7, by decide +kernel, by decide, rfl⟩)
theorem d_LawX_law_23 : zd b_LawX_law 23 .isub 1 24 := ⟨by decide +kernel, rfl⟩
theorem d_LawX_law_24 : zd_b b_LawX_law 24 (.if_icmp .gt) 27 1203 := ⟨1179, by decide +kernel, by decide, rfl⟩
theorem d_LawX_law_27 : zd_l .aload_n .aload b_LawX_law 27 0 28 := Or.inl ⟨0, rfl, by decide +kernel, rfl⟩
theorem d_LawX_law_28 : zd_l .iload_n .iload b_LawX_law 28 3 29 := Or.inl ⟨3, rfl, by decide +kernel, rfl⟩
theorem d_LawX_law_29 : zd b_LawX_law 29 .iaload 1 30 := ⟨by decide +kernel, rfl⟩
theorem d_LawX_law_30 : zd_k b_LawX_law "SameTuesdayLaw" 30 31 32 := Or.inr (Or.inl ⟨31, by decide +kernel, by decide, rfl⟩)
theorem d_LawX_law_32 : zd b_LawX_law 32 .iand 1 33 := ⟨by decide +kernel, rfl⟩
theorem d_LawX_law_33 : decode b_LawX_law 33 = .ok (.tableswitch 1164 0 28 #[131, 184, 217, 250, 273, 306, 369, 432, 485, 518, 541, 564, 587, 610, 633, 646, 669, 744, 820, 863, 886, 929, 973, 1036, 1059, 1082, 1115, 1128, 1141], 131) := by decide +kernel
theorem d_LawX_law_164 : zd_l .aload_n .aload b_LawX_law 164 1 165 := Or.inl ⟨1, rfl, by decide +kernel, rfl⟩
theorem d_LawX_law_165 : zd_l .aload_n .aload b_LawX_law 165 0 166 := Or.inl ⟨0, rfl, by decide +kernel, rfl⟩
theorem d_LawX_law_166 : zd_l .iload_n .iload b_LawX_law 166 3 167 := Or.inl ⟨3, rfl, by decide +kernel, rfl⟩
theorem d_LawX_law_167 : zd_k b_LawX_law "SameTuesdayLaw" 167 1 168 := Or.inl ⟨1, by decide +kernel, by decide, rfl⟩
theorem d_LawX_law_168 : zd b_LawX_law 168 .iadd 1 169 := ⟨by decide +kernel, rfl⟩
theorem d_LawX_law_169 : zd b_LawX_law 169 .iaload 1 170 := ⟨by decide +kernel, rfl⟩
theorem d_LawX_law_170 : zd_l .aload_n .aload b_LawX_law 170 0 171 := Or.inl ⟨0, rfl, by decide +kernel, rfl⟩
theorem d_LawX_law_171 : zd_l .iload_n .iload b_LawX_law 171 3 172 := Or.inl ⟨3, rfl, by decide +kernel, rfl⟩
theorem d_LawX_law_172 : zd_k b_LawX_law "SameTuesdayLaw" 172 2 173 := Or.inl ⟨2, by decide +kernel, by decide, rfl⟩
theorem d_LawX_law_173 : zd b_LawX_law 173 .iadd 1 174 := ⟨by decide +kernel, rfl⟩
theorem d_LawX_law_174 : zd b_LawX_law 174 .iaload 1 175 := ⟨by decide +kernel, rfl⟩
theorem d_LawX_law_175 : zd_l .aload_n .aload b_LawX_law 175 0 176 := Or.inl ⟨0, rfl, by decide +kernel, rfl⟩
theorem d_LawX_law_176 : zd_l .iload_n .iload b_LawX_law 176 3 177 := Or.inl ⟨3, rfl, by decide +kernel, rfl⟩
theorem d_LawX_law_177 : zd_k b_LawX_law "SameTuesdayLaw" 177 3 178 := Or.inl ⟨3, by decide +kernel, by decide, rfl⟩
theorem d_LawX_law_178 : zd b_LawX_law 178 .iadd 1 179 := ⟨by decide +kernel, rfl⟩
theorem d_LawX_law_179 : zd b_LawX_law 179 .iaload 1 180 := ⟨by decide +kernel, rfl⟩
theorem d_LawX_law_180 : zd_l .aload_n .aload b_LawX_law 180 0 181 := Or.inl ⟨0, rfl, by decide +kernel, rfl⟩
theorem d_LawX_law_181 : zd_l .iload_n .iload b_LawX_law 181 3 182 := Or.inl ⟨3, rfl, by decide +kernel, rfl⟩
theorem d_LawX_law_182 : zd_k b_LawX_law "SameTuesdayLaw" 182 4 183 := Or.inl ⟨4, by decide +kernel, by decide, rfl⟩
theorem d_LawX_law_183 : zd b_LawX_law 183 .iadd 1 184 := ⟨by decide +kernel, rfl⟩
theorem d_LawX_law_184 : zd b_LawX_law 184 .iaload 1 185 := ⟨by decide +kernel, rfl⟩
theorem d_LawX_law_185 : zd b_LawX_law 185 (.invokevirtual 13) 3 188 := ⟨by decide +kernel, rfl⟩
theorem d_LawX_law_188 : zd_l .aload_n .aload b_LawX_law 188 2 189 := Or.inl ⟨2, rfl, by decide +kernel, rfl⟩
theorem d_LawX_law_189 : zd_l .aload_n .aload b_LawX_law 189 0 190 := Or.inl ⟨0, rfl, by decide +kernel, rfl⟩
theorem d_LawX_law_190 : zd_l .iload_n .iload b_LawX_law 190 3 191 := Or.inl ⟨3, rfl, by decide +kernel, rfl⟩
theorem d_LawX_law_191 : zd_k b_LawX_law "SameTuesdayLaw" 191 1 192 := Or.inl ⟨1, by decide +kernel, by decide, rfl⟩
theorem d_LawX_law_192 : zd b_LawX_law 192 .iadd 1 193 := ⟨by decide +kernel, rfl⟩
theorem d_LawX_law_193 : zd b_LawX_law 193 .iaload 1 194 := ⟨by decide +kernel, rfl⟩
theorem d_LawX_law_194 : zd_l .aload_n .aload b_LawX_law 194 0 195 := Or.inl ⟨0, rfl, by decide +kernel, rfl⟩
theorem d_LawX_law_195 : zd_l .iload_n .iload b_LawX_law 195 3 196 := Or.inl ⟨3, rfl, by decide +kernel, rfl⟩
theorem d_LawX_law_196 : zd_k b_LawX_law "SameTuesdayLaw" 196 2 197 := Or.inl ⟨2, by decide +kernel, by decide, rfl⟩
theorem d_LawX_law_197 : zd b_LawX_law 197 .iadd 1 198 := ⟨by decide +kernel, rfl⟩
theorem d_LawX_law_198 : zd b_LawX_law 198 .iaload 1 199 := ⟨by decide +kernel, rfl⟩
theorem d_LawX_law_199 : zd_l .aload_n .aload b_LawX_law 199 0 200 := Or.inl ⟨0, rfl, by decide +kernel, rfl⟩
theorem d_LawX_law_200 : zd_l .iload_n .iload b_LawX_law 200 3 201 := Or.inl ⟨3, rfl, by decide +kernel, rfl⟩
theorem d_LawX_law_201 : zd_k b_LawX_law "SameTuesdayLaw" 201 3 202 := Or.inl ⟨3, by decide +kernel, by decide, rfl⟩
theorem d_LawX_law_202 : zd b_LawX_law 202 .iadd 1 203 := ⟨by decide +kernel, rfl⟩
theorem d_LawX_law_203 : zd b_LawX_law 203 .iaload 1 204 := ⟨by decide +kernel, rfl⟩
theorem d_LawX_law_204 : zd_l .aload_n .aload b_LawX_law 204 0 205 := Or.inl ⟨0, rfl, by decide +kernel, rfl⟩
theorem d_LawX_law_205 : zd_l .iload_n .iload b_LawX_law 205 3 206 := Or.inl ⟨3, rfl, by decide +kernel, rfl⟩
theorem d_LawX_law_206 : zd_k b_LawX_law "SameTuesdayLaw" 206 4 207 := Or.inl ⟨4, by decide +kernel, by decide, rfl⟩
theorem d_LawX_law_207 : zd b_LawX_law 207 .iadd 1 208 := ⟨by decide +kernel, rfl⟩
theorem d_LawX_law_208 : zd b_LawX_law 208 .iaload 1 209 := ⟨by decide +kernel, rfl⟩
theorem d_LawX_law_209 : zd b_LawX_law 209 (.invokevirtual 17) 3 212 := ⟨by decide +kernel, rfl⟩
theorem d_LawX_law_212 : zd_b b_LawX_law 212 (.if_icmp .eq) 215 1197 := ⟨985, by decide +kernel, by decide, rfl⟩
theorem d_LawX_law_215 : zd_k b_LawX_law "SameTuesdayLaw" 215 0 216 := Or.inl ⟨0, by decide +kernel, by decide, rfl⟩
theorem d_LawX_law_216 : zd b_LawX_law 216 .ireturn 1 217 := ⟨by decide +kernel, rfl⟩
theorem d_LawX_law_217 : zd_l .aload_n .aload b_LawX_law 217 1 218 := Or.inl ⟨1, rfl, by decide +kernel, rfl⟩
theorem d_LawX_law_218 : zd_l .aload_n .aload b_LawX_law 218 0 219 := Or.inl ⟨0, rfl, by decide +kernel, rfl⟩
theorem d_LawX_law_219 : zd_l .iload_n .iload b_LawX_law 219 3 220 := Or.inl ⟨3, rfl, by decide +kernel, rfl⟩
theorem d_LawX_law_220 : zd_k b_LawX_law "SameTuesdayLaw" 220 1 221 := Or.inl ⟨1, by decide +kernel, by decide, rfl⟩
theorem d_LawX_law_221 : zd b_LawX_law 221 .iadd 1 222 := ⟨by decide +kernel, rfl⟩
theorem d_LawX_law_222 : zd b_LawX_law 222 .iaload 1 223 := ⟨by decide +kernel, rfl⟩
theorem d_LawX_law_223 : zd_l .aload_n .aload b_LawX_law 223 0 224 := Or.inl ⟨0, rfl, by decide +kernel, rfl⟩
theorem d_LawX_law_224 : zd_l .iload_n .iload b_LawX_law 224 3 225 := Or.inl ⟨3, rfl, by decide +kernel, rfl⟩
theorem d_LawX_law_225 : zd_k b_LawX_law "SameTuesdayLaw" 225 2 226 := Or.inl ⟨2, by decide +kernel, by decide, rfl⟩
theorem d_LawX_law_226 : zd b_LawX_law 226 .iadd 1 227 := ⟨by decide +kernel, rfl⟩
theorem d_LawX_law_227 : zd b_LawX_law 227 .iaload 1 228 := ⟨by decide +kernel, rfl⟩
theorem d_LawX_law_228 : zd b_LawX_law 228 (.invokevirtual 18) 3 231 := ⟨by decide +kernel, rfl⟩
theorem d_LawX_law_231 : zd_l .aload_n .aload b_LawX_law 231 2 232 := Or.inl ⟨2, rfl, by decide +kernel, rfl⟩
theorem d_LawX_law_232 : zd_l .aload_n .aload b_LawX_law 232 0 233 := Or.inl ⟨0, rfl, by decide +kernel, rfl⟩
theorem d_LawX_law_233 : zd_l .iload_n .iload b_LawX_law 233 3 234 := Or.inl ⟨3, rfl, by decide +kernel, rfl⟩
theorem d_LawX_law_234 : zd_k b_LawX_law "SameTuesdayLaw" 234 1 235 := Or.inl ⟨1, by decide +kernel, by decide, rfl⟩
theorem d_LawX_law_235 : zd b_LawX_law 235 .iadd 1 236 := ⟨by decide +kernel, rfl⟩
theorem d_LawX_law_236 : zd b_LawX_law 236 .iaload 1 237 := ⟨by decide +kernel, rfl⟩
theorem d_LawX_law_237 : zd_l .aload_n .aload b_LawX_law 237 0 238 := Or.inl ⟨0, rfl, by decide +kernel, rfl⟩
theorem d_LawX_law_238 : zd_l .iload_n .iload b_LawX_law 238 3 239 := Or.inl ⟨3, rfl, by decide +kernel, rfl⟩
theorem d_LawX_law_239 : zd_k b_LawX_law "SameTuesdayLaw" 239 2 240 := Or.inl ⟨2, by decide +kernel, by decide, rfl⟩
theorem d_LawX_law_240 : zd b_LawX_law 240 .iadd 1 241 := ⟨by decide +kernel, rfl⟩
theorem d_LawX_law_241 : zd b_LawX_law 241 .iaload 1 242 := ⟨by decide +kernel, rfl⟩
theorem d_LawX_law_242 : zd b_LawX_law 242 (.invokevirtual 22) 3 245 := ⟨by decide +kernel, rfl⟩
theorem d_LawX_law_245 : zd_b b_LawX_law 245 (.if_icmp .eq) 248 1197 := ⟨952, by decide +kernel, by decide, rfl⟩
theorem d_LawX_law_248 : zd_k b_LawX_law "SameTuesdayLaw" 248 0 249 := Or.inl ⟨0, by decide +kernel, by decide, rfl⟩
theorem d_LawX_law_249 : zd b_LawX_law 249 .ireturn 1 250 := ⟨by decide +kernel, rfl⟩
theorem d_LawX_law_250 : zd_l .aload_n .aload b_LawX_law 250 1 251 := Or.inl ⟨1, rfl, by decide +kernel, rfl⟩
theorem d_LawX_law_251 : zd_l .aload_n .aload b_LawX_law 251 0 252 := Or.inl ⟨0, rfl, by decide +kernel, rfl⟩
theorem d_LawX_law_252 : zd_l .iload_n .iload b_LawX_law 252 3 253 := Or.inl ⟨3, rfl, by decide +kernel, rfl⟩
theorem d_LawX_law_253 : zd_k b_LawX_law "SameTuesdayLaw" 253 1 254 := Or.inl ⟨1, by decide +kernel, by decide, rfl⟩
theorem d_LawX_law_254 : zd b_LawX_law 254 .iadd 1 255 := ⟨by decide +kernel, rfl⟩
theorem d_LawX_law_255 : zd b_LawX_law 255 .iaload 1 256 := ⟨by decide +kernel, rfl⟩
theorem d_LawX_law_256 : zd_l .aload_n .aload b_LawX_law 256 0 257 := Or.inl ⟨0, rfl, by decide +kernel, rfl⟩
theorem d_LawX_law_257 : zd_l .iload_n .iload b_LawX_law 257 3 258 := Or.inl ⟨3, rfl, by decide +kernel, rfl⟩
theorem d_LawX_law_258 : zd_k b_LawX_law "SameTuesdayLaw" 258 2 259 := Or.inl ⟨2, by decide +kernel, by decide, rfl⟩
theorem d_LawX_law_259 : zd b_LawX_law 259 .iadd 1 260 := ⟨by decide +kernel, rfl⟩
theorem d_LawX_law_260 : zd b_LawX_law 260 .iaload 1 261 := ⟨by decide +kernel, rfl⟩
theorem d_LawX_law_261 : zd b_LawX_law 261 (.invokevirtual 23) 3 264 := ⟨by decide +kernel, rfl⟩
theorem d_LawX_law_264 : zd_l .aload_n .aload b_LawX_law 264 2 265 := Or.inl ⟨2, rfl, by decide +kernel, rfl⟩
theorem d_LawX_law_265 : zd_l .aload_n .aload b_LawX_law 265 0 266 := Or.inl ⟨0, rfl, by decide +kernel, rfl⟩
theorem d_LawX_law_266 : zd_l .iload_n .iload b_LawX_law 266 3 267 := Or.inl ⟨3, rfl, by decide +kernel, rfl⟩
theorem d_LawX_law_267 : zd_k b_LawX_law "SameTuesdayLaw" 267 1 268 := Or.inl ⟨1, by decide +kernel, by decide, rfl⟩
theorem d_LawX_law_268 : zd b_LawX_law 268 .iadd 1 269 := ⟨by decide +kernel, rfl⟩
theorem d_LawX_law_269 : zd b_LawX_law 269 .iaload 1 270 := ⟨by decide +kernel, rfl⟩
theorem d_LawX_law_270 : zd_l .aload_n .aload b_LawX_law 270 0 271 := Or.inl ⟨0, rfl, by decide +kernel, rfl⟩
theorem d_LawX_law_271 : zd_l .iload_n .iload b_LawX_law 271 3 272 := Or.inl ⟨3, rfl, by decide +kernel, rfl⟩
theorem d_LawX_law_272 : zd_k b_LawX_law "SameTuesdayLaw" 272 2 273 := Or.inl ⟨2, by decide +kernel, by decide, rfl⟩
theorem d_LawX_law_273 : zd b_LawX_law 273 .iadd 1 274 := ⟨by decide +kernel, rfl⟩
theorem d_LawX_law_274 : zd b_LawX_law 274 .iaload 1 275 := ⟨by decide +kernel, rfl⟩
theorem d_LawX_law_275 : zd b_LawX_law 275 (.invokevirtual 26) 3 278 := ⟨by decide +kernel, rfl⟩
theorem d_LawX_law_278 : zd_b b_LawX_law 278 (.if_icmp .eq) 281 1197 := ⟨919, by decide +kernel, by decide, rfl⟩
theorem d_LawX_law_281 : zd_k b_LawX_law "SameTuesdayLaw" 281 0 282 := Or.inl ⟨0, by decide +kernel, by decide, rfl⟩
theorem d_LawX_law_282 : zd b_LawX_law 282 .ireturn 1 283 := ⟨by decide +kernel, rfl⟩
theorem d_LawX_law_283 : zd_l .aload_n .aload b_LawX_law 283 1 284 := Or.inl ⟨1, rfl, by decide +kernel, rfl⟩
theorem d_LawX_law_284 : zd_l .aload_n .aload b_LawX_law 284 0 285 := Or.inl ⟨0, rfl, by decide +kernel, rfl⟩
theorem d_LawX_law_285 : zd_l .iload_n .iload b_LawX_law 285 3 286 := Or.inl ⟨3, rfl, by decide +kernel, rfl⟩
theorem d_LawX_law_286 : zd_k b_LawX_law "SameTuesdayLaw" 286 1 287 := Or.inl ⟨1, by decide +kernel, by decide, rfl⟩
theorem d_LawX_law_287 : zd b_LawX_law 287 .iadd 1 288 := ⟨by decide +kernel, rfl⟩
theorem d_LawX_law_288 : zd b_LawX_law 288 .iaload 1 289 := ⟨by decide +kernel, rfl⟩
theorem d_LawX_law_289 : zd b_LawX_law 289 (.invokevirtual 27) 3 292 := ⟨by decide +kernel, rfl⟩
theorem d_LawX_law_292 : zd_l .aload_n .aload b_LawX_law 292 2 293 := Or.inl ⟨2, rfl, by decide +kernel, rfl⟩
theorem d_LawX_law_293 : zd_l .aload_n .aload b_LawX_law 293 0 294 := Or.inl ⟨0, rfl, by decide +kernel, rfl⟩
theorem d_LawX_law_294 : zd_l .iload_n .iload b_LawX_law 294 3 295 := Or.inl ⟨3, rfl, by decide +kernel, rfl⟩
theorem d_LawX_law_295 : zd_k b_LawX_law "SameTuesdayLaw" 295 1 296 := Or.inl ⟨1, by decide +kernel, by decide, rfl⟩
theorem d_LawX_law_296 : zd b_LawX_law 296 .iadd 1 297 := ⟨by decide +kernel, rfl⟩
theorem d_LawX_law_297 : zd b_LawX_law 297 .iaload 1 298 := ⟨by decide +kernel, rfl⟩
theorem d_LawX_law_298 : zd b_LawX_law 298 (.invokevirtual 31) 3 301 := ⟨by decide +kernel, rfl⟩
theorem d_LawX_law_301 : zd_b b_LawX_law 301 (.if_icmp .eq) 304 1197 := ⟨896, by decide +kernel, by decide, rfl⟩
theorem d_LawX_law_304 : zd_k b_LawX_law "SameTuesdayLaw" 304 0 305 := Or.inl ⟨0, by decide +kernel, by decide, rfl⟩
theorem d_LawX_law_305 : zd b_LawX_law 305 .ireturn 1 306 := ⟨by decide +kernel, rfl⟩
theorem d_LawX_law_306 : zd_l .aload_n .aload b_LawX_law 306 1 307 := Or.inl ⟨1, rfl, by decide +kernel, rfl⟩
theorem d_LawX_law_307 : zd_l .aload_n .aload b_LawX_law 307 0 308 := Or.inl ⟨0, rfl, by decide +kernel, rfl⟩
theorem d_LawX_law_308 : zd_l .iload_n .iload b_LawX_law 308 3 309 := Or.inl ⟨3, rfl, by decide +kernel, rfl⟩
theorem d_LawX_law_309 : zd_k b_LawX_law "SameTuesdayLaw" 309 1 310 := Or.inl ⟨1, by decide +kernel, by decide, rfl⟩
theorem d_LawX_law_310 : zd b_LawX_law 310 .iadd 1 311 := ⟨by decide +kernel, rfl⟩
theorem d_LawX_law_311 : zd b_LawX_law 311 .iaload 1 312 := ⟨by decide +kernel, rfl⟩
theorem d_LawX_law_312 : zd_l .aload_n .aload b_LawX_law 312 0 313 := Or.inl ⟨0, rfl, by decide +kernel, rfl⟩
theorem d_LawX_law_313 : zd_l .iload_n .iload b_LawX_law 313 3 314 := Or.inl ⟨3, rfl, by decide +kernel, rfl⟩
theorem d_LawX_law_314 : zd_k b_LawX_law "SameTuesdayLaw" 314 2 315 := Or.inl ⟨2, by decide +kernel, by decide, rfl⟩
theorem d_LawX_law_315 : zd b_LawX_law 315 .iadd 1 316 := ⟨by decide +kernel, rfl⟩
theorem d_LawX_law_316 : zd b_LawX_law 316 .iaload 1 317 := ⟨by decide +kernel, rfl⟩
theorem d_LawX_law_317 : zd b_LawX_law 317 (.invokevirtual 32) 3 320 := ⟨by decide +kernel, rfl⟩
theorem d_LawX_law_320 : zd_l .aload_n .aload b_LawX_law 320 2 321 := Or.inl ⟨2, rfl, by decide +kernel, rfl⟩
theorem d_LawX_law_321 : zd_l .aload_n .aload b_LawX_law 321 0 322 := Or.inl ⟨0, rfl, by decide +kernel, rfl⟩
theorem d_LawX_law_322 : zd_l .iload_n .iload b_LawX_law 322 3 323 := Or.inl ⟨3, rfl, by decide +kernel, rfl⟩
theorem d_LawX_law_323 : zd_k b_LawX_law "SameTuesdayLaw" 323 1 324 := Or.inl ⟨1, by decide +kernel, by decide, rfl⟩
theorem d_LawX_law_324 : zd b_LawX_law 324 .iadd 1 325 := ⟨by decide +kernel, rfl⟩
theorem d_LawX_law_325 : zd b_LawX_law 325 .iaload 1 326 := ⟨by decide +kernel, rfl⟩
theorem d_LawX_law_326 : zd_l .aload_n .aload b_LawX_law 326 0 327 := Or.inl ⟨0, rfl, by decide +kernel, rfl⟩
theorem d_LawX_law_327 : zd_l .iload_n .iload b_LawX_law 327 3 328 := Or.inl ⟨3, rfl, by decide +kernel, rfl⟩
theorem d_LawX_law_328 : zd_k b_LawX_law "SameTuesdayLaw" 328 2 329 := Or.inl ⟨2, by decide +kernel, by decide, rfl⟩
theorem d_LawX_law_329 : zd b_LawX_law 329 .iadd 1 330 := ⟨by decide +kernel, rfl⟩
theorem d_LawX_law_330 : zd b_LawX_law 330 .iaload 1 331 := ⟨by decide +kernel, rfl⟩
theorem d_LawX_law_331 : zd b_LawX_law 331 (.invokevirtual 35) 3 334 := ⟨by decide +kernel, rfl⟩
theorem d_LawX_law_334 : zd_b b_LawX_law 334 (.if_icmp .eq) 337 1197 := ⟨863, by decide +kernel, by decide, rfl⟩
theorem d_LawX_law_337 : zd_k b_LawX_law "SameTuesdayLaw" 337 0 338 := Or.inl ⟨0, by decide +kernel, by decide, rfl⟩
theorem d_LawX_law_338 : zd b_LawX_law 338 .ireturn 1 339 := ⟨by decide +kernel, rfl⟩
theorem d_LawX_law_339 : zd_l .aload_n .aload b_LawX_law 339 1 340 := Or.inl ⟨1, rfl, by decide +kernel, rfl⟩
theorem d_LawX_law_340 : zd_l .aload_n .aload b_LawX_law 340 0 341 := Or.inl ⟨0, rfl, by decide +kernel, rfl⟩
theorem d_LawX_law_341 : zd_l .iload_n .iload b_LawX_law 341 3 342 := Or.inl ⟨3, rfl, by decide +kernel, rfl⟩
theorem d_LawX_law_342 : zd_k b_LawX_law "SameTuesdayLaw" 342 1 343 := Or.inl ⟨1, by decide +kernel, by decide, rfl⟩
theorem d_LawX_law_343 : zd b_LawX_law 343 .iadd 1 344 := ⟨by decide +kernel, rfl⟩
theorem d_LawX_law_344 : zd b_LawX_law 344 .iaload 1 345 := ⟨by decide +kernel, rfl⟩
theorem d_LawX_law_345 : zd_l .aload_n .aload b_LawX_law 345 0 346 := Or.inl ⟨0, rfl, by decide +kernel, rfl⟩
theorem d_LawX_law_346 : zd_l .iload_n .iload b_LawX_law 346 3 347 := Or.inl ⟨3, rfl, by decide +kernel, rfl⟩
theorem d_LawX_law_347 : zd_k b_LawX_law "SameTuesdayLaw" 347 2 348 := Or.inl ⟨2, by decide +kernel, by decide, rfl⟩
theorem d_LawX_law_348 : zd b_LawX_law 348 .iadd 1 349 := ⟨by decide +kernel, rfl⟩
theorem d_LawX_law_349 : zd b_LawX_law 349 .iaload 1 350 := ⟨by decide +kernel, rfl⟩
theorem d_LawX_law_350 : zd_l .aload_n .aload b_LawX_law 350 0 351 := Or.inl ⟨0, rfl, by decide +kernel, rfl⟩
theorem d_LawX_law_351 : zd_l .iload_n .iload b_LawX_law 351 3 352 := Or.inl ⟨3, rfl, by decide +kernel, rfl⟩
theorem d_LawX_law_352 : zd_k b_LawX_law "SameTuesdayLaw" 352 3 353 := Or.inl ⟨3, by decide +kernel, by decide, rfl⟩
theorem d_LawX_law_353 : zd b_LawX_law 353 .iadd 1 354 := ⟨by decide +kernel, rfl⟩
theorem d_LawX_law_354 : zd b_LawX_law 354 .iaload 1 355 := ⟨by decide +kernel, rfl⟩
theorem d_LawX_law_355 : zd_l .aload_n .aload b_LawX_law 355 0 356 := Or.inl ⟨0, rfl, by decide +kernel, rfl⟩
theorem d_LawX_law_356 : zd_l .iload_n .iload b_LawX_law 356 3 357 := Or.inl ⟨3, rfl, by decide +kernel, rfl⟩
theorem d_LawX_law_357 : zd_k b_LawX_law "SameTuesdayLaw" 357 4 358 := Or.inl ⟨4, by decide +kernel, by decide, rfl⟩
theorem d_LawX_law_358 : zd b_LawX_law 358 .iadd 1 359 := ⟨by decide +kernel, rfl⟩
theorem d_LawX_law_359 : zd b_LawX_law 359 .iaload 1 360 := ⟨by decide +kernel, rfl⟩
theorem d_LawX_law_360 : zd_l .aload_n .aload b_LawX_law 360 0 361 := Or.inl ⟨0, rfl, by decide +kernel, rfl⟩
theorem d_LawX_law_361 : zd_l .iload_n .iload b_LawX_law 361 3 362 := Or.inl ⟨3, rfl, by decide +kernel, rfl⟩
theorem d_LawX_law_362 : zd_k b_LawX_law "SameTuesdayLaw" 362 5 363 := Or.inl ⟨5, by decide +kernel, by decide, rfl⟩
theorem d_LawX_law_363 : zd b_LawX_law 363 .iadd 1 364 := ⟨by decide +kernel, rfl⟩
theorem d_LawX_law_364 : zd b_LawX_law 364 .iaload 1 365 := ⟨by decide +kernel, rfl⟩
theorem d_LawX_law_365 : zd b_LawX_law 365 (.invokevirtual 36) 3 368 := ⟨by decide +kernel, rfl⟩
theorem d_LawX_law_368 : zd_l .aload_n .aload b_LawX_law 368 2 369 := Or.inl ⟨2, rfl, by decide +kernel, rfl⟩
theorem d_LawX_law_369 : zd_l .aload_n .aload b_LawX_law 369 0 370 := Or.inl ⟨0, rfl, by decide +kernel, rfl⟩
theorem d_LawX_law_370 : zd_l .iload_n .iload b_LawX_law 370 3 371 := Or.inl ⟨3, rfl, by decide +kernel, rfl⟩
theorem d_LawX_law_371 : zd_k b_LawX_law "SameTuesdayLaw" 371 1 372 := Or.inl ⟨1, by decide +kernel, by decide, rfl⟩
theorem d_LawX_law_372 : zd b_LawX_law 372 .iadd 1 373 := ⟨by decide +kernel, rfl⟩
theorem d_LawX_law_373 : zd b_LawX_law 373 .iaload 1 374 := ⟨by decide +kernel, rfl⟩
theorem d_LawX_law_374 : zd_l .aload_n .aload b_LawX_law 374 0 375 := Or.inl ⟨0, rfl, by decide +kernel, rfl⟩
theorem d_LawX_law_375 : zd_l .iload_n .iload b_LawX_law 375 3 376 := Or.inl ⟨3, rfl, by decide +kernel, rfl⟩
theorem d_LawX_law_376 : zd_k b_LawX_law "SameTuesdayLaw" 376 2 377 := Or.inl ⟨2, by decide +kernel, by decide, rfl⟩
theorem d_LawX_law_377 : zd b_LawX_law 377 .iadd 1 378 := ⟨by decide +kernel, rfl⟩
theorem d_LawX_law_378 : zd b_LawX_law 378 .iaload 1 379 := ⟨by decide +kernel, rfl⟩
theorem d_LawX_law_379 : zd_l .aload_n .aload b_LawX_law 379 0 380 := Or.inl ⟨0, rfl, by decide +kernel, rfl⟩
theorem d_LawX_law_380 : zd_l .iload_n .iload b_LawX_law 380 3 381 := Or.inl ⟨3, rfl, by decide +kernel, rfl⟩
theorem d_LawX_law_381 : zd_k b_LawX_law "SameTuesdayLaw" 381 3 382 := Or.inl ⟨3, by decide +kernel, by decide, rfl⟩
theorem d_LawX_law_382 : zd b_LawX_law 382 .iadd 1 383 := ⟨by decide +kernel, rfl⟩
theorem d_LawX_law_383 : zd b_LawX_law 383 .iaload 1 384 := ⟨by decide +kernel, rfl⟩
theorem d_LawX_law_384 : zd_l .aload_n .aload b_LawX_law 384 0 385 := Or.inl ⟨0, rfl, by decide +kernel, rfl⟩
theorem d_LawX_law_385 : zd_l .iload_n .iload b_LawX_law 385 3 386 := Or.inl ⟨3, rfl, by decide +kernel, rfl⟩
theorem d_LawX_law_386 : zd_k b_LawX_law "SameTuesdayLaw" 386 4 387 := Or.inl ⟨4, by decide +kernel, by decide, rfl⟩
theorem d_LawX_law_387 : zd b_LawX_law 387 .iadd 1 388 := ⟨by decide +kernel, rfl⟩
theorem d_LawX_law_388 : zd b_LawX_law 388 .iaload 1 389 := ⟨by decide +kernel, rfl⟩
theorem d_LawX_law_389 : zd_l .aload_n .aload b_LawX_law 389 0 390 := Or.inl ⟨0, rfl, by decide +kernel, rfl⟩
theorem d_LawX_law_390 : zd_l .iload_n .iload b_LawX_law 390 3 391 := Or.inl ⟨3, rfl, by decide +kernel, rfl⟩
theorem d_LawX_law_391 : zd_k b_LawX_law "SameTuesdayLaw" 391 5 392 := Or.inl ⟨5, by decide +kernel, by decide, rfl⟩
theorem d_LawX_law_392 : zd b_LawX_law 392 .iadd 1 393 := ⟨by decide +kernel, rfl⟩
theorem d_LawX_law_393 : zd b_LawX_law 393 .iaload 1 394 := ⟨by decide +kernel, rfl⟩
theorem d_LawX_law_394 : zd b_LawX_law 394 (.invokevirtual 40) 3 397 := ⟨by decide +kernel, rfl⟩
theorem d_LawX_law_397 : zd_b b_LawX_law 397 (.if_icmp .eq) 400 1197 := ⟨800, by decide +kernel, by decide, rfl⟩
theorem d_LawX_law_400 : zd_k b_LawX_law "SameTuesdayLaw" 400 0 401 := Or.inl ⟨0, by decide +kernel, by decide, rfl⟩
theorem d_LawX_law_401 : zd b_LawX_law 401 .ireturn 1 402 := ⟨by decide +kernel, rfl⟩
theorem d_LawX_law_402 : zd_l .aload_n .aload b_LawX_law 402 1 403 := Or.inl ⟨1, rfl, by decide +kernel, rfl⟩
theorem d_LawX_law_403 : zd_l .aload_n .aload b_LawX_law 403 0 404 := Or.inl ⟨0, rfl, by decide +kernel, rfl⟩
theorem d_LawX_law_404 : zd_l .iload_n .iload b_LawX_law 404 3 405 := Or.inl ⟨3, rfl, by decide +kernel, rfl⟩
theorem d_LawX_law_405 : zd_k b_LawX_law "SameTuesdayLaw" 405 1 406 := Or.inl ⟨1, by decide +kernel, by decide, rfl⟩
theorem d_LawX_law_406 : zd b_LawX_law 406 .iadd 1 407 := ⟨by decide +kernel, rfl⟩
theorem d_LawX_law_407 : zd b_LawX_law 407 .iaload 1 408 := ⟨by decide +kernel, rfl⟩
theorem d_LawX_law_408 : zd_l .aload_n .aload b_LawX_law 408 0 409 := Or.inl ⟨0, rfl, by decide +kernel, rfl⟩
theorem d_LawX_law_409 : zd_l .iload_n .iload b_LawX_law 409 3 410 := Or.inl ⟨3, rfl, by decide +kernel, rfl⟩
theorem d_LawX_law_410 : zd_k b_LawX_law "SameTuesdayLaw" 410 2 411 := Or.inl ⟨2, by decide +kernel, by decide, rfl⟩
theorem d_LawX_law_411 : zd b_LawX_law 411 .iadd 1 412 := ⟨by decide +kernel, rfl⟩
theorem d_LawX_law_412 : zd b_LawX_law 412 .iaload 1 413 := ⟨by decide +kernel, rfl⟩
theorem d_LawX_law_413 : zd_l .aload_n .aload b_LawX_law 413 0 414 := Or.inl ⟨0, rfl, by decide +kernel, rfl⟩
theorem d_LawX_law_414 : zd_l .iload_n .iload b_LawX_law 414 3 415 := Or.inl ⟨3, rfl, by decide +kernel, rfl⟩
theorem d_LawX_law_415 : zd_k b_LawX_law "SameTuesdayLaw" 415 3 416 := Or.inl ⟨3, by decide +kernel, by decide, rfl⟩
theorem d_LawX_law_416 : zd b_LawX_law 416 .iadd 1 417 := ⟨by decide +kernel, rfl⟩
theorem d_LawX_law_417 : zd b_LawX_law 417 .iaload 1 418 := ⟨by decide +kernel, rfl⟩
theorem d_LawX_law_418 : zd_l .aload_n .aload b_LawX_law 418 0 419 := Or.inl ⟨0, rfl, by decide +kernel, rfl⟩
theorem d_LawX_law_419 : zd_l .iload_n .iload b_LawX_law 419 3 420 := Or.inl ⟨3, rfl, by decide +kernel, rfl⟩
theorem d_LawX_law_420 : zd_k b_LawX_law "SameTuesdayLaw" 420 4 421 := Or.inl ⟨4, by decide +kernel, by decide, rfl⟩
theorem d_LawX_law_421 : zd b_LawX_law 421 .iadd 1 422 := ⟨by decide +kernel, rfl⟩
theorem d_LawX_law_422 : zd b_LawX_law 422 .iaload 1 423 := ⟨by decide +kernel, rfl⟩
theorem d_LawX_law_423 : zd_l .aload_n .aload b_LawX_law 423 0 424 := Or.inl ⟨0, rfl, by decide +kernel, rfl⟩
theorem d_LawX_law_424 : zd_l .iload_n .iload b_LawX_law 424 3 425 := Or.inl ⟨3, rfl, by decide +kernel, rfl⟩
theorem d_LawX_law_425 : zd_k b_LawX_law "SameTuesdayLaw" 425 5 426 := Or.inl ⟨5, by decide +kernel, by decide, rfl⟩
theorem d_LawX_law_426 : zd b_LawX_law 426 .iadd 1 427 := ⟨by decide +kernel, rfl⟩
theorem d_LawX_law_427 : zd b_LawX_law 427 .iaload 1 428 := ⟨by decide +kernel, rfl⟩
theorem d_LawX_law_428 : zd b_LawX_law 428 (.invokevirtual 41) 3 431 := ⟨by decide +kernel, rfl⟩
theorem d_LawX_law_431 : zd_l .aload_n .aload b_LawX_law 431 2 432 := Or.inl ⟨2, rfl, by decide +kernel, rfl⟩
theorem d_LawX_law_432 : zd_l .aload_n .aload b_LawX_law 432 0 433 := Or.inl ⟨0, rfl, by decide +kernel, rfl⟩
theorem d_LawX_law_433 : zd_l .iload_n .iload b_LawX_law 433 3 434 := Or.inl ⟨3, rfl, by decide +kernel, rfl⟩
theorem d_LawX_law_434 : zd_k b_LawX_law "SameTuesdayLaw" 434 1 435 := Or.inl ⟨1, by decide +kernel, by decide, rfl⟩
theorem d_LawX_law_435 : zd b_LawX_law 435 .iadd 1 436 := ⟨by decide +kernel, rfl⟩
theorem d_LawX_law_436 : zd b_LawX_law 436 .iaload 1 437 := ⟨by decide +kernel, rfl⟩
theorem d_LawX_law_437 : zd_l .aload_n .aload b_LawX_law 437 0 438 := Or.inl ⟨0, rfl, by decide +kernel, rfl⟩
theorem d_LawX_law_438 : zd_l .iload_n .iload b_LawX_law 438 3 439 := Or.inl ⟨3, rfl, by decide +kernel, rfl⟩
theorem d_LawX_law_439 : zd_k b_LawX_law "SameTuesdayLaw" 439 2 440 := Or.inl ⟨2, by decide +kernel, by decide, rfl⟩
theorem d_LawX_law_440 : zd b_LawX_law 440 .iadd 1 441 := ⟨by decide +kernel, rfl⟩
theorem d_LawX_law_441 : zd b_LawX_law 441 .iaload 1 442 := ⟨by decide +kernel, rfl⟩
theorem d_LawX_law_442 : zd_l .aload_n .aload b_LawX_law 442 0 443 := Or.inl ⟨0, rfl, by decide +kernel, rfl⟩
theorem d_LawX_law_443 : zd_l .iload_n .iload b_LawX_law 443 3 444 := Or.inl ⟨3, rfl, by decide +kernel, rfl⟩
theorem d_LawX_law_444 : zd_k b_LawX_law "SameTuesdayLaw" 444 3 445 := Or.inl ⟨3, by decide +kernel, by decide, rfl⟩
theorem d_LawX_law_445 : zd b_LawX_law 445 .iadd 1 446 := ⟨by decide +kernel, rfl⟩
theorem d_LawX_law_446 : zd b_LawX_law 446 .iaload 1 447 := ⟨by decide +kernel, rfl⟩
theorem d_LawX_law_447 : zd_l .aload_n .aload b_LawX_law 447 0 448 := Or.inl ⟨0, rfl, by decide +kernel, rfl⟩
theorem d_LawX_law_448 : zd_l .iload_n .iload b_LawX_law 448 3 449 := Or.inl ⟨3, rfl, by decide +kernel, rfl⟩
theorem d_LawX_law_449 : zd_k b_LawX_law "SameTuesdayLaw" 449 4 450 := Or.inl ⟨4, by decide +kernel, by decide, rfl⟩
theorem d_LawX_law_450 : zd b_LawX_law 450 .iadd 1 451 := ⟨by decide +kernel, rfl⟩
theorem d_LawX_law_451 : zd b_LawX_law 451 .iaload 1 452 := ⟨by decide +kernel, rfl⟩
theorem d_LawX_law_452 : zd_l .aload_n .aload b_LawX_law 452 0 453 := Or.inl ⟨0, rfl, by decide +kernel, rfl⟩
theorem d_LawX_law_453 : zd_l .iload_n .iload b_LawX_law 453 3 454 := Or.inl ⟨3, rfl, by decide +kernel, rfl⟩
theorem d_LawX_law_454 : zd_k b_LawX_law "SameTuesdayLaw" 454 5 455 := Or.inl ⟨5, by decide +kernel, by decide, rfl⟩
theorem d_LawX_law_455 : zd b_LawX_law 455 .iadd 1 456 := ⟨by decide +kernel, rfl⟩
theorem d_LawX_law_456 : zd b_LawX_law 456 .iaload 1 457 := ⟨by decide +kernel, rfl⟩
theorem d_LawX_law_457 : zd b_LawX_law 457 (.invokevirtual 44) 3 460 := ⟨by decide +kernel, rfl⟩
theorem d_LawX_law_460 : zd_b b_LawX_law 460 (.if_icmp .eq) 463 1197 := ⟨737, by decide +kernel, by decide, rfl⟩
theorem d_LawX_law_463 : zd_k b_LawX_law "SameTuesdayLaw" 463 0 464 := Or.inl ⟨0, by decide +kernel, by decide, rfl⟩
theorem d_LawX_law_464 : zd b_LawX_law 464 .ireturn 1 465 := ⟨by decide +kernel, rfl⟩
theorem d_LawX_law_465 : zd_l .aload_n .aload b_LawX_law 465 1 466 := Or.inl ⟨1, rfl, by decide +kernel, rfl⟩
theorem d_LawX_law_466 : zd_l .aload_n .aload b_LawX_law 466 0 467 := Or.inl ⟨0, rfl, by decide +kernel, rfl⟩
theorem d_LawX_law_467 : zd_l .iload_n .iload b_LawX_law 467 3 468 := Or.inl ⟨3, rfl, by decide +kernel, rfl⟩
theorem d_LawX_law_468 : zd_k b_LawX_law "SameTuesdayLaw" 468 1 469 := Or.inl ⟨1, by decide +kernel, by decide, rfl⟩
theorem d_LawX_law_469 : zd b_LawX_law 469 .iadd 1 470 := ⟨by decide +kernel, rfl⟩
theorem d_LawX_law_470 : zd b_LawX_law 470 .iaload 1 471 := ⟨by decide +kernel, rfl⟩
theorem d_LawX_law_471 : zd_l .aload_n .aload b_LawX_law 471 0 472 := Or.inl ⟨0, rfl, by decide +kernel, rfl⟩
theorem d_LawX_law_472 : zd_l .iload_n .iload b_LawX_law 472 3 473 := Or.inl ⟨3, rfl, by decide +kernel, rfl⟩
theorem d_LawX_law_473 : zd_k b_LawX_law "SameTuesdayLaw" 473 2 474 := Or.inl ⟨2, by decide +kernel, by decide, rfl⟩
theorem d_LawX_law_474 : zd b_LawX_law 474 .iadd 1 475 := ⟨by decide +kernel, rfl⟩
theorem d_LawX_law_475 : zd b_LawX_law 475 .iaload 1 476 := ⟨by decide +kernel, rfl⟩
theorem d_LawX_law_476 : zd_l .aload_n .aload b_LawX_law 476 0 477 := Or.inl ⟨0, rfl, by decide +kernel, rfl⟩
theorem d_LawX_law_477 : zd_l .iload_n .iload b_LawX_law 477 3 478 := Or.inl ⟨3, rfl, by decide +kernel, rfl⟩
theorem d_LawX_law_478 : zd_k b_LawX_law "SameTuesdayLaw" 478 3 479 := Or.inl ⟨3, by decide +kernel, by decide, rfl⟩
theorem d_LawX_law_479 : zd b_LawX_law 479 .iadd 1 480 := ⟨by decide +kernel, rfl⟩
theorem d_LawX_law_480 : zd b_LawX_law 480 .iaload 1 481 := ⟨by decide +kernel, rfl⟩
theorem d_LawX_law_481 : zd_l .aload_n .aload b_LawX_law 481 0 482 := Or.inl ⟨0, rfl, by decide +kernel, rfl⟩
theorem d_LawX_law_482 : zd_l .iload_n .iload b_LawX_law 482 3 483 := Or.inl ⟨3, rfl, by decide +kernel, rfl⟩
theorem d_LawX_law_483 : zd_k b_LawX_law "SameTuesdayLaw" 483 4 484 := Or.inl ⟨4, by decide +kernel, by decide, rfl⟩
theorem d_LawX_law_484 : zd b_LawX_law 484 .iadd 1 485 := ⟨by decide +kernel, rfl⟩
theorem d_LawX_law_485 : zd b_LawX_law 485 .iaload 1 486 := ⟨by decide +kernel, rfl⟩
theorem d_LawX_law_486 : zd b_LawX_law 486 (.invokevirtual 45) 3 489 := ⟨by decide +kernel, rfl⟩
theorem d_LawX_law_489 : zd_l .aload_n .aload b_LawX_law 489 2 490 := Or.inl ⟨2, rfl, by decide +kernel, rfl⟩
theorem d_LawX_law_490 : zd_l .aload_n .aload b_LawX_law 490 0 491 := Or.inl ⟨0, rfl, by decide +kernel, rfl⟩
theorem d_LawX_law_491 : zd_l .iload_n .iload b_LawX_law 491 3 492 := Or.inl ⟨3, rfl, by decide +kernel, rfl⟩
theorem d_LawX_law_492 : zd_k b_LawX_law "SameTuesdayLaw" 492 1 493 := Or.inl ⟨1, by decide +kernel, by decide, rfl⟩
theorem d_LawX_law_493 : zd b_LawX_law 493 .iadd 1 494 := ⟨by decide +kernel, rfl⟩
theorem d_LawX_law_494 : zd b_LawX_law 494 .iaload 1 495 := ⟨by decide +kernel, rfl⟩
theorem d_LawX_law_495 : zd_l .aload_n .aload b_LawX_law 495 0 496 := Or.inl ⟨0, rfl, by decide +kernel, rfl⟩
theorem d_LawX_law_496 : zd_l .iload_n .iload b_LawX_law 496 3 497 := Or.inl ⟨3, rfl, by decide +kernel, rfl⟩
theorem d_LawX_law_497 : zd_k b_LawX_law "SameTuesdayLaw" 497 2 498 := Or.inl ⟨2, by decide +kernel, by decide, rfl⟩
theorem d_LawX_law_498 : zd b_LawX_law 498 .iadd 1 499 := ⟨by decide +kernel, rfl⟩
theorem d_LawX_law_499 : zd b_LawX_law 499 .iaload 1 500 := ⟨by decide +kernel, rfl⟩
theorem d_LawX_law_500 : zd_l .aload_n .aload b_LawX_law 500 0 501 := Or.inl ⟨0, rfl, by decide +kernel, rfl⟩
theorem d_LawX_law_501 : zd_l .iload_n .iload b_LawX_law 501 3 502 := Or.inl ⟨3, rfl, by decide +kernel, rfl⟩
theorem d_LawX_law_502 : zd_k b_LawX_law "SameTuesdayLaw" 502 3 503 := Or.inl ⟨3, by decide +kernel, by decide, rfl⟩
theorem d_LawX_law_503 : zd b_LawX_law 503 .iadd 1 504 := ⟨by decide +kernel, rfl⟩
theorem d_LawX_law_504 : zd b_LawX_law 504 .iaload 1 505 := ⟨by decide +kernel, rfl⟩
theorem d_LawX_law_505 : zd_l .aload_n .aload b_LawX_law 505 0 506 := Or.inl ⟨0, rfl, by decide +kernel, rfl⟩
theorem d_LawX_law_506 : zd_l .iload_n .iload b_LawX_law 506 3 507 := Or.inl ⟨3, rfl, by decide +kernel, rfl⟩
theorem d_LawX_law_507 : zd_k b_LawX_law "SameTuesdayLaw" 507 4 508 := Or.inl ⟨4, by decide +kernel, by decide, rfl⟩
theorem d_LawX_law_508 : zd b_LawX_law 508 .iadd 1 509 := ⟨by decide +kernel, rfl⟩
theorem d_LawX_law_509 : zd b_LawX_law 509 .iaload 1 510 := ⟨by decide +kernel, rfl⟩
theorem d_LawX_law_510 : zd b_LawX_law 510 (.invokevirtual 48) 3 513 := ⟨by decide +kernel, rfl⟩
theorem d_LawX_law_513 : zd_b b_LawX_law 513 (.if_icmp .eq) 516 1197 := ⟨684, by decide +kernel, by decide, rfl⟩
theorem d_LawX_law_516 : zd_k b_LawX_law "SameTuesdayLaw" 516 0 517 := Or.inl ⟨0, by decide +kernel, by decide, rfl⟩
theorem d_LawX_law_517 : zd b_LawX_law 517 .ireturn 1 518 := ⟨by decide +kernel, rfl⟩
theorem d_LawX_law_518 : zd_l .aload_n .aload b_LawX_law 518 1 519 := Or.inl ⟨1, rfl, by decide +kernel, rfl⟩
theorem d_LawX_law_519 : zd_l .aload_n .aload b_LawX_law 519 0 520 := Or.inl ⟨0, rfl, by decide +kernel, rfl⟩
theorem d_LawX_law_520 : zd_l .iload_n .iload b_LawX_law 520 3 521 := Or.inl ⟨3, rfl, by decide +kernel, rfl⟩
theorem d_LawX_law_521 : zd_k b_LawX_law "SameTuesdayLaw" 521 1 522 := Or.inl ⟨1, by decide +kernel, by decide, rfl⟩
theorem d_LawX_law_522 : zd b_LawX_law 522 .iadd 1 523 := ⟨by decide +kernel, rfl⟩
theorem d_LawX_law_523 : zd b_LawX_law 523 .iaload 1 524 := ⟨by decide +kernel, rfl⟩
theorem d_LawX_law_524 : zd_l .aload_n .aload b_LawX_law 524 0 525 := Or.inl ⟨0, rfl, by decide +kernel, rfl⟩
theorem d_LawX_law_525 : zd_l .iload_n .iload b_LawX_law 525 3 526 := Or.inl ⟨3, rfl, by decide +kernel, rfl⟩
theorem d_LawX_law_526 : zd_k b_LawX_law "SameTuesdayLaw" 526 2 527 := Or.inl ⟨2, by decide +kernel, by decide, rfl⟩
theorem d_LawX_law_527 : zd b_LawX_law 527 .iadd 1 528 := ⟨by decide +kernel, rfl⟩
theorem d_LawX_law_528 : zd b_LawX_law 528 .iaload 1 529 := ⟨by decide +kernel, rfl⟩
theorem d_LawX_law_529 : zd b_LawX_law 529 (.invokevirtual 49) 3 532 := ⟨by decide +kernel, rfl⟩
theorem d_LawX_law_532 : zd_l .aload_n .aload b_LawX_law 532 2 533 := Or.inl ⟨2, rfl, by decide +kernel, rfl⟩
theorem d_LawX_law_533 : zd_l .aload_n .aload b_LawX_law 533 0 534 := Or.inl ⟨0, rfl, by decide +kernel, rfl⟩
theorem d_LawX_law_534 : zd_l .iload_n .iload b_LawX_law 534 3 535 := Or.inl ⟨3, rfl, by decide +kernel, rfl⟩
theorem d_LawX_law_535 : zd_k b_LawX_law "SameTuesdayLaw" 535 1 536 := Or.inl ⟨1, by decide +kernel, by decide, rfl⟩
theorem d_LawX_law_536 : zd b_LawX_law 536 .iadd 1 537 := ⟨by decide +kernel, rfl⟩
theorem d_LawX_law_537 : zd b_LawX_law 537 .iaload 1 538 := ⟨by decide +kernel, rfl⟩
theorem d_LawX_law_538 : zd_l .aload_n .aload b_LawX_law 538 0 539 := Or.inl ⟨0, rfl, by decide +kernel, rfl⟩
theorem d_LawX_law_539 : zd_l .iload_n .iload b_LawX_law 539 3 540 := Or.inl ⟨3, rfl, by decide +kernel, rfl⟩
theorem d_LawX_law_540 : zd_k b_LawX_law "SameTuesdayLaw" 540 2 541 := Or.inl ⟨2, by decide +kernel, by decide, rfl⟩
theorem d_LawX_law_541 : zd b_LawX_law 541 .iadd 1 542 := ⟨by decide +kernel, rfl⟩
theorem d_LawX_law_542 : zd b_LawX_law 542 .iaload 1 543 := ⟨by decide +kernel, rfl⟩
theorem d_LawX_law_543 : zd b_LawX_law 543 (.invokevirtual 52) 3 546 := ⟨by decide +kernel, rfl⟩
theorem d_LawX_law_546 : zd_b b_LawX_law 546 (.if_icmp .eq) 549 1197 := ⟨651, by decide +kernel, by decide, rfl⟩
theorem d_LawX_law_549 : zd_k b_LawX_law "SameTuesdayLaw" 549 0 550 := Or.inl ⟨0, by decide +kernel, by decide, rfl⟩
theorem d_LawX_law_550 : zd b_LawX_law 550 .ireturn 1 551 := ⟨by decide +kernel, rfl⟩
theorem d_LawX_law_551 : zd_l .aload_n .aload b_LawX_law 551 1 552 := Or.inl ⟨1, rfl, by decide +kernel, rfl⟩
theorem d_LawX_law_552 : zd_l .aload_n .aload b_LawX_law 552 0 553 := Or.inl ⟨0, rfl, by decide +kernel, rfl⟩
theorem d_LawX_law_553 : zd_l .iload_n .iload b_LawX_law 553 3 554 := Or.inl ⟨3, rfl, by decide +kernel, rfl⟩
theorem d_LawX_law_554 : zd_k b_LawX_law "SameTuesdayLaw" 554 1 555 := Or.inl ⟨1, by decide +kernel, by decide, rfl⟩
theorem d_LawX_law_555 : zd b_LawX_law 555 .iadd 1 556 := ⟨by decide +kernel, rfl⟩
theorem d_LawX_law_556 : zd b_LawX_law 556 .iaload 1 557 := ⟨by decide +kernel, rfl⟩
theorem d_LawX_law_557 : zd b_LawX_law 557 (.invokevirtual 53) 3 560 := ⟨by decide +kernel, rfl⟩
theorem d_LawX_law_560 : zd_l .aload_n .aload b_LawX_law 560 2 561 := Or.inl ⟨2, rfl, by decide +kernel, rfl⟩
theorem d_LawX_law_561 : zd_l .aload_n .aload b_LawX_law 561 0 562 := Or.inl ⟨0, rfl, by decide +kernel, rfl⟩
theorem d_LawX_law_562 : zd_l .iload_n .iload b_LawX_law 562 3 563 := Or.inl ⟨3, rfl, by decide +kernel, rfl⟩
theorem d_LawX_law_563 : zd_k b_LawX_law "SameTuesdayLaw" 563 1 564 := Or.inl ⟨1, by decide +kernel, by decide, rfl⟩
theorem d_LawX_law_564 : zd b_LawX_law 564 .iadd 1 565 := ⟨by decide +kernel, rfl⟩
theorem d_LawX_law_565 : zd b_LawX_law 565 .iaload 1 566 := ⟨by decide +kernel, rfl⟩
theorem d_LawX_law_566 : zd b_LawX_law 566 (.invokevirtual 56) 3 569 := ⟨by decide +kernel, rfl⟩
theorem d_LawX_law_569 : zd_b b_LawX_law 569 (.if_icmp .eq) 572 1197 := ⟨628, by decide +kernel, by decide, rfl⟩
theorem d_LawX_law_572 : zd_k b_LawX_law "SameTuesdayLaw" 572 0 573 := Or.inl ⟨0, by decide +kernel, by decide, rfl⟩
theorem d_LawX_law_573 : zd b_LawX_law 573 .ireturn 1 574 := ⟨by decide +kernel, rfl⟩
theorem d_LawX_law_574 : zd_l .aload_n .aload b_LawX_law 574 1 575 := Or.inl ⟨1, rfl, by decide +kernel, rfl⟩
theorem d_LawX_law_575 : zd_l .aload_n .aload b_LawX_law 575 0 576 := Or.inl ⟨0, rfl, by decide +kernel, rfl⟩
theorem d_LawX_law_576 : zd_l .iload_n .iload b_LawX_law 576 3 577 := Or.inl ⟨3, rfl, by decide +kernel, rfl⟩
theorem d_LawX_law_577 : zd_k b_LawX_law "SameTuesdayLaw" 577 1 578 := Or.inl ⟨1, by decide +kernel, by decide, rfl⟩
theorem d_LawX_law_578 : zd b_LawX_law 578 .iadd 1 579 := ⟨by decide +kernel, rfl⟩
theorem d_LawX_law_579 : zd b_LawX_law 579 .iaload 1 580 := ⟨by decide +kernel, rfl⟩
theorem d_LawX_law_580 : zd b_LawX_law 580 (.invokevirtual 57) 3 583 := ⟨by decide +kernel, rfl⟩
theorem d_LawX_law_583 : zd_l .aload_n .aload b_LawX_law 583 2 584 := Or.inl ⟨2, rfl, by decide +kernel, rfl⟩
theorem d_LawX_law_584 : zd_l .aload_n .aload b_LawX_law 584 0 585 := Or.inl ⟨0, rfl, by decide +kernel, rfl⟩
theorem d_LawX_law_585 : zd_l .iload_n .iload b_LawX_law 585 3 586 := Or.inl ⟨3, rfl, by decide +kernel, rfl⟩
theorem d_LawX_law_586 : zd_k b_LawX_law "SameTuesdayLaw" 586 1 587 := Or.inl ⟨1, by decide +kernel, by decide, rfl⟩
theorem d_LawX_law_587 : zd b_LawX_law 587 .iadd 1 588 := ⟨by decide +kernel, rfl⟩
theorem d_LawX_law_588 : zd b_LawX_law 588 .iaload 1 589 := ⟨by decide +kernel, rfl⟩
theorem d_LawX_law_589 : zd b_LawX_law 589 (.invokevirtual 60) 3 592 := ⟨by decide +kernel, rfl⟩
theorem d_LawX_law_592 : zd_b b_LawX_law 592 (.if_icmp .eq) 595 1197 := ⟨605, by decide +kernel, by decide, rfl⟩
theorem d_LawX_law_595 : zd_k b_LawX_law "SameTuesdayLaw" 595 0 596 := Or.inl ⟨0, by decide +kernel, by decide, rfl⟩
theorem d_LawX_law_596 : zd b_LawX_law 596 .ireturn 1 597 := ⟨by decide +kernel, rfl⟩
theorem d_LawX_law_597 : zd_l .aload_n .aload b_LawX_law 597 1 598 := Or.inl ⟨1, rfl, by decide +kernel, rfl⟩
theorem d_LawX_law_598 : zd_l .aload_n .aload b_LawX_law 598 0 599 := Or.inl ⟨0, rfl, by decide +kernel, rfl⟩
theorem d_LawX_law_599 : zd_l .iload_n .iload b_LawX_law 599 3 600 := Or.inl ⟨3, rfl, by decide +kernel, rfl⟩
theorem d_LawX_law_600 : zd_k b_LawX_law "SameTuesdayLaw" 600 1 601 := Or.inl ⟨1, by decide +kernel, by decide, rfl⟩
theorem d_LawX_law_601 : zd b_LawX_law 601 .iadd 1 602 := ⟨by decide +kernel, rfl⟩
theorem d_LawX_law_602 : zd b_LawX_law 602 .iaload 1 603 := ⟨by decide +kernel, rfl⟩
theorem d_LawX_law_603 : zd b_LawX_law 603 (.invokevirtual 61) 3 606 := ⟨by decide +kernel, rfl⟩
theorem d_LawX_law_606 : zd_l .aload_n .aload b_LawX_law 606 2 607 := Or.inl ⟨2, rfl, by decide +kernel, rfl⟩
theorem d_LawX_law_607 : zd_l .aload_n .aload b_LawX_law 607 0 608 := Or.inl ⟨0, rfl, by decide +kernel, rfl⟩
theorem d_LawX_law_608 : zd_l .iload_n .iload b_LawX_law 608 3 609 := Or.inl ⟨3, rfl, by decide +kernel, rfl⟩
theorem d_LawX_law_609 : zd_k b_LawX_law "SameTuesdayLaw" 609 1 610 := Or.inl ⟨1, by decide +kernel, by decide, rfl⟩
theorem d_LawX_law_610 : zd b_LawX_law 610 .iadd 1 611 := ⟨by decide +kernel, rfl⟩
theorem d_LawX_law_611 : zd b_LawX_law 611 .iaload 1 612 := ⟨by decide +kernel, rfl⟩
theorem d_LawX_law_612 : zd b_LawX_law 612 (.invokevirtual 64) 3 615 := ⟨by decide +kernel, rfl⟩
theorem d_LawX_law_615 : zd_b b_LawX_law 615 (.if_icmp .eq) 618 1197 := ⟨582, by decide +kernel, by decide, rfl⟩
theorem d_LawX_law_618 : zd_k b_LawX_law "SameTuesdayLaw" 618 0 619 := Or.inl ⟨0, by decide +kernel, by decide, rfl⟩
theorem d_LawX_law_619 : zd b_LawX_law 619 .ireturn 1 620 := ⟨by decide +kernel, rfl⟩
theorem d_LawX_law_620 : zd_l .aload_n .aload b_LawX_law 620 1 621 := Or.inl ⟨1, rfl, by decide +kernel, rfl⟩
theorem d_LawX_law_621 : zd_l .aload_n .aload b_LawX_law 621 0 622 := Or.inl ⟨0, rfl, by decide +kernel, rfl⟩
theorem d_LawX_law_622 : zd_l .iload_n .iload b_LawX_law 622 3 623 := Or.inl ⟨3, rfl, by decide +kernel, rfl⟩
theorem d_LawX_law_623 : zd_k b_LawX_law "SameTuesdayLaw" 623 1 624 := Or.inl ⟨1, by decide +kernel, by decide, rfl⟩
theorem d_LawX_law_624 : zd b_LawX_law 624 .iadd 1 625 := ⟨by decide +kernel, rfl⟩
theorem d_LawX_law_625 : zd b_LawX_law 625 .iaload 1 626 := ⟨by decide +kernel, rfl⟩
theorem d_LawX_law_626 : zd b_LawX_law 626 (.invokevirtual 65) 3 629 := ⟨by decide +kernel, rfl⟩
theorem d_LawX_law_629 : zd_l .aload_n .aload b_LawX_law 629 2 630 := Or.inl ⟨2, rfl, by decide +kernel, rfl⟩
theorem d_LawX_law_630 : zd_l .aload_n .aload b_LawX_law 630 0 631 := Or.inl ⟨0, rfl, by decide +kernel, rfl⟩
theorem d_LawX_law_631 : zd_l .iload_n .iload b_LawX_law 631 3 632 := Or.inl ⟨3, rfl, by decide +kernel, rfl⟩
theorem d_LawX_law_632 : zd_k b_LawX_law "SameTuesdayLaw" 632 1 633 := Or.inl ⟨1, by decide +kernel, by decide, rfl⟩
theorem d_LawX_law_633 : zd b_LawX_law 633 .iadd 1 634 := ⟨by decide +kernel, rfl⟩
theorem d_LawX_law_634 : zd b_LawX_law 634 .iaload 1 635 := ⟨by decide +kernel, rfl⟩
theorem d_LawX_law_635 : zd b_LawX_law 635 (.invokevirtual 68) 3 638 := ⟨by decide +kernel, rfl⟩
theorem d_LawX_law_638 : zd_b b_LawX_law 638 (.if_icmp .eq) 641 1197 := ⟨559, by decide +kernel, by decide, rfl⟩
theorem d_LawX_law_641 : zd_k b_LawX_law "SameTuesdayLaw" 641 0 642 := Or.inl ⟨0, by decide +kernel, by decide, rfl⟩
theorem d_LawX_law_642 : zd b_LawX_law 642 .ireturn 1 643 := ⟨by decide +kernel, rfl⟩
theorem d_LawX_law_643 : zd_l .aload_n .aload b_LawX_law 643 1 644 := Or.inl ⟨1, rfl, by decide +kernel, rfl⟩
theorem d_LawX_law_644 : zd_l .aload_n .aload b_LawX_law 644 0 645 := Or.inl ⟨0, rfl, by decide +kernel, rfl⟩
theorem d_LawX_law_645 : zd_l .iload_n .iload b_LawX_law 645 3 646 := Or.inl ⟨3, rfl, by decide +kernel, rfl⟩
theorem d_LawX_law_646 : zd_k b_LawX_law "SameTuesdayLaw" 646 1 647 := Or.inl ⟨1, by decide +kernel, by decide, rfl⟩
theorem d_LawX_law_647 : zd b_LawX_law 647 .iadd 1 648 := ⟨by decide +kernel, rfl⟩
theorem d_LawX_law_648 : zd b_LawX_law 648 .iaload 1 649 := ⟨by decide +kernel, rfl⟩
theorem d_LawX_law_649 : zd b_LawX_law 649 (.invokevirtual 69) 3 652 := ⟨by decide +kernel, rfl⟩
theorem d_LawX_law_652 : zd_l .aload_n .aload b_LawX_law 652 2 653 := Or.inl ⟨2, rfl, by decide +kernel, rfl⟩
theorem d_LawX_law_653 : zd_l .aload_n .aload b_LawX_law 653 0 654 := Or.inl ⟨0, rfl, by decide +kernel, rfl⟩
theorem d_LawX_law_654 : zd_l .iload_n .iload b_LawX_law 654 3 655 := Or.inl ⟨3, rfl, by decide +kernel, rfl⟩
theorem d_LawX_law_655 : zd_k b_LawX_law "SameTuesdayLaw" 655 1 656 := Or.inl ⟨1, by decide +kernel, by decide, rfl⟩
theorem d_LawX_law_656 : zd b_LawX_law 656 .iadd 1 657 := ⟨by decide +kernel, rfl⟩
theorem d_LawX_law_657 : zd b_LawX_law 657 .iaload 1 658 := ⟨by decide +kernel, rfl⟩
theorem d_LawX_law_658 : zd b_LawX_law 658 (.invokevirtual 72) 3 661 := ⟨by decide +kernel, rfl⟩
theorem d_LawX_law_661 : zd_b b_LawX_law 661 (.if_icmp .eq) 664 1197 := ⟨536, by decide +kernel, by decide, rfl⟩
theorem d_LawX_law_664 : zd_k b_LawX_law "SameTuesdayLaw" 664 0 665 := Or.inl ⟨0, by decide +kernel, by decide, rfl⟩
theorem d_LawX_law_665 : zd b_LawX_law 665 .ireturn 1 666 := ⟨by decide +kernel, rfl⟩
theorem d_LawX_law_666 : zd_l .aload_n .aload b_LawX_law 666 1 667 := Or.inl ⟨1, rfl, by decide +kernel, rfl⟩
theorem d_LawX_law_667 : zd b_LawX_law 667 (.invokevirtual 73) 3 670 := ⟨by decide +kernel, rfl⟩
theorem d_LawX_law_670 : zd_l .aload_n .aload b_LawX_law 670 2 671 := Or.inl ⟨2, rfl, by decide +kernel, rfl⟩
theorem d_LawX_law_671 : zd b_LawX_law 671 (.invokevirtual 77) 3 674 := ⟨by decide +kernel, rfl⟩
theorem d_LawX_law_674 : zd_b b_LawX_law 674 (.if_icmp .eq) 677 1197 := ⟨523, by decide +kernel, by decide, rfl⟩
theorem d_LawX_law_677 : zd_k b_LawX_law "SameTuesdayLaw" 677 0 678 := Or.inl ⟨0, by decide +kernel, by decide, rfl⟩
theorem d_LawX_law_678 : zd b_LawX_law 678 .ireturn 1 679 := ⟨by decide +kernel, rfl⟩
theorem d_LawX_law_679 : zd_l .aload_n .aload b_LawX_law 679 1 680 := Or.inl ⟨1, rfl, by decide +kernel, rfl⟩
theorem d_LawX_law_680 : zd_l .aload_n .aload b_LawX_law 680 0 681 := Or.inl ⟨0, rfl, by decide +kernel, rfl⟩
theorem d_LawX_law_681 : zd_l .iload_n .iload b_LawX_law 681 3 682 := Or.inl ⟨3, rfl, by decide +kernel, rfl⟩
theorem d_LawX_law_682 : zd_k b_LawX_law "SameTuesdayLaw" 682 1 683 := Or.inl ⟨1, by decide +kernel, by decide, rfl⟩
theorem d_LawX_law_683 : zd b_LawX_law 683 .iadd 1 684 := ⟨by decide +kernel, rfl⟩
theorem d_LawX_law_684 : zd b_LawX_law 684 .iaload 1 685 := ⟨by decide +kernel, rfl⟩
theorem d_LawX_law_685 : zd b_LawX_law 685 (.invokevirtual 78) 3 688 := ⟨by decide +kernel, rfl⟩
theorem d_LawX_law_688 : zd_l .aload_n .aload b_LawX_law 688 2 689 := Or.inl ⟨2, rfl, by decide +kernel, rfl⟩
theorem d_LawX_law_689 : zd_l .aload_n .aload b_LawX_law 689 0 690 := Or.inl ⟨0, rfl, by decide +kernel, rfl⟩
theorem d_LawX_law_690 : zd_l .iload_n .iload b_LawX_law 690 3 691 := Or.inl ⟨3, rfl, by decide +kernel, rfl⟩
theorem d_LawX_law_691 : zd_k b_LawX_law "SameTuesdayLaw" 691 1 692 := Or.inl ⟨1, by decide +kernel, by decide, rfl⟩
theorem d_LawX_law_692 : zd b_LawX_law 692 .iadd 1 693 := ⟨by decide +kernel, rfl⟩
theorem d_LawX_law_693 : zd b_LawX_law 693 .iaload 1 694 := ⟨by decide +kernel, rfl⟩
theorem d_LawX_law_694 : zd b_LawX_law 694 (.invokevirtual 81) 3 697 := ⟨by decide +kernel, rfl⟩
theorem d_LawX_law_697 : zd_b b_LawX_law 697 (.if_icmp .eq) 700 1197 := ⟨500, by decide +kernel, by decide, rfl⟩
theorem d_LawX_law_700 : zd_k b_LawX_law "SameTuesdayLaw" 700 0 701 := Or.inl ⟨0, by decide +kernel, by decide, rfl⟩
theorem d_LawX_law_701 : zd b_LawX_law 701 .ireturn 1 702 := ⟨by decide +kernel, rfl⟩
theorem d_LawX_law_702 : zd_l .aload_n .aload b_LawX_law 702 1 703 := Or.inl ⟨1, rfl, by decide +kernel, rfl⟩
theorem d_LawX_law_703 : zd_l .aload_n .aload b_LawX_law 703 0 704 := Or.inl ⟨0, rfl, by decide +kernel, rfl⟩
theorem d_LawX_law_704 : zd_l .iload_n .iload b_LawX_law 704 3 705 := Or.inl ⟨3, rfl, by decide +kernel, rfl⟩
theorem d_LawX_law_705 : zd_k b_LawX_law "SameTuesdayLaw" 705 1 706 := Or.inl ⟨1, by decide +kernel, by decide, rfl⟩
theorem d_LawX_law_706 : zd b_LawX_law 706 .iadd 1 707 := ⟨by decide +kernel, rfl⟩
theorem d_LawX_law_707 : zd b_LawX_law 707 .iaload 1 708 := ⟨by decide +kernel, rfl⟩
theorem d_LawX_law_708 : zd_l .aload_n .aload b_LawX_law 708 0 709 := Or.inl ⟨0, rfl, by decide +kernel, rfl⟩
theorem d_LawX_law_709 : zd_l .iload_n .iload b_LawX_law 709 3 710 := Or.inl ⟨3, rfl, by decide +kernel, rfl⟩
theorem d_LawX_law_710 : zd_k b_LawX_law "SameTuesdayLaw" 710 2 711 := Or.inl ⟨2, by decide +kernel, by decide, rfl⟩
theorem d_LawX_law_711 : zd b_LawX_law 711 .iadd 1 712 := ⟨by decide +kernel, rfl⟩
theorem d_LawX_law_712 : zd b_LawX_law 712 .iaload 1 713 := ⟨by decide +kernel, rfl⟩
theorem d_LawX_law_713 : zd_l .aload_n .aload b_LawX_law 713 0 714 := Or.inl ⟨0, rfl, by decide +kernel, rfl⟩
theorem d_LawX_law_714 : zd_l .iload_n .iload b_LawX_law 714 3 715 := Or.inl ⟨3, rfl, by decide +kernel, rfl⟩
theorem d_LawX_law_715 : zd_k b_LawX_law "SameTuesdayLaw" 715 3 716 := Or.inl ⟨3, by decide +kernel, by decide, rfl⟩
theorem d_LawX_law_716 : zd b_LawX_law 716 .iadd 1 717 := ⟨by decide +kernel, rfl⟩
theorem d_LawX_law_717 : zd b_LawX_law 717 .iaload 1 718 := ⟨by decide +kernel, rfl⟩
theorem d_LawX_law_718 : zd_l .aload_n .aload b_LawX_law 718 0 719 := Or.inl ⟨0, rfl, by decide +kernel, rfl⟩
theorem d_LawX_law_719 : zd_l .iload_n .iload b_LawX_law 719 3 720 := Or.inl ⟨3, rfl, by decide +kernel, rfl⟩
theorem d_LawX_law_720 : zd_k b_LawX_law "SameTuesdayLaw" 720 4 721 := Or.inl ⟨4, by decide +kernel, by decide, rfl⟩
theorem d_LawX_law_721 : zd b_LawX_law 721 .iadd 1 722 := ⟨by decide +kernel, rfl⟩
theorem d_LawX_law_722 : zd b_LawX_law 722 .iaload 1 723 := ⟨by decide +kernel, rfl⟩
theorem d_LawX_law_723 : zd_l .aload_n .aload b_LawX_law 723 0 724 := Or.inl ⟨0, rfl, by decide +kernel, rfl⟩
theorem d_LawX_law_724 : zd_l .iload_n .iload b_LawX_law 724 3 725 := Or.inl ⟨3, rfl, by decide +kernel, rfl⟩
theorem d_LawX_law_725 : zd_k b_LawX_law "SameTuesdayLaw" 725 5 726 := Or.inl ⟨5, by decide +kernel, by decide, rfl⟩
theorem d_LawX_law_726 : zd b_LawX_law 726 .iadd 1 727 := ⟨by decide +kernel, rfl⟩
theorem d_LawX_law_727 : zd b_LawX_law 727 .iaload 1 728 := ⟨by decide +kernel, rfl⟩
theorem d_LawX_law_728 : zd_l .aload_n .aload b_LawX_law 728 0 729 := Or.inl ⟨0, rfl, by decide +kernel, rfl⟩
theorem d_LawX_law_729 : zd_l .iload_n .iload b_LawX_law 729 3 730 := Or.inl ⟨3, rfl, by decide +kernel, rfl⟩
theorem d_LawX_law_730 : zd_k b_LawX_law "SameTuesdayLaw" 730 6 732 := Or.inr (Or.inl ⟨6, by decide +kernel, by decide, rfl⟩)
theorem d_LawX_law_732 : zd b_LawX_law 732 .iadd 1 733 := ⟨by decide +kernel, rfl⟩
theorem d_LawX_law_733 : zd b_LawX_law 733 .iaload 1 734 := ⟨by decide +kernel, rfl⟩
theorem d_LawX_law_734 : zd b_LawX_law 734 (.invokevirtual 82) 3 737 := ⟨by decide +kernel, rfl⟩
theorem d_LawX_law_737 : zd_l .aload_n .aload b_LawX_law 737 2 738 := Or.inl ⟨2, rfl, by decide +kernel, rfl⟩
theorem d_LawX_law_738 : zd_l .aload_n .aload b_LawX_law 738 0 739 := Or.inl ⟨0, rfl, by decide +kernel, rfl⟩
theorem d_LawX_law_739 : zd_l .iload_n .iload b_LawX_law 739 3 740 := Or.inl ⟨3, rfl, by decide +kernel, rfl⟩
theorem d_LawX_law_740 : zd_k b_LawX_law "SameTuesdayLaw" 740 1 741 := Or.inl ⟨1, by decide +kernel, by decide, rfl⟩
theorem d_LawX_law_741 : zd b_LawX_law 741 .iadd 1 742 := ⟨by decide +kernel, rfl⟩
theorem d_LawX_law_742 : zd b_LawX_law 742 .iaload 1 743 := ⟨by decide +kernel, rfl⟩
theorem d_LawX_law_743 : zd_l .aload_n .aload b_LawX_law 743 0 744 := Or.inl ⟨0, rfl, by decide +kernel, rfl⟩
theorem d_LawX_law_744 : zd_l .iload_n .iload b_LawX_law 744 3 745 := Or.inl ⟨3, rfl, by decide +kernel, rfl⟩
theorem d_LawX_law_745 : zd_k b_LawX_law "SameTuesdayLaw" 745 2 746 := Or.inl ⟨2, by decide +kernel, by decide, rfl⟩
theorem d_LawX_law_746 : zd b_LawX_law 746 .iadd 1 747 := ⟨by decide +kernel, rfl⟩
theorem d_LawX_law_747 : zd b_LawX_law 747 .iaload 1 748 := ⟨by decide +kernel, rfl⟩
theorem d_LawX_law_748 : zd_l .aload_n .aload b_LawX_law 748 0 749 := Or.inl ⟨0, rfl, by decide +kernel, rfl⟩
theorem d_LawX_law_749 : zd_l .iload_n .iload b_LawX_law 749 3 750 := Or.inl ⟨3, rfl, by decide +kernel, rfl⟩
theorem d_LawX_law_750 : zd_k b_LawX_law "SameTuesdayLaw" 750 3 751 := Or.inl ⟨3, by decide +kernel, by decide, rfl⟩
theorem d_LawX_law_751 : zd b_LawX_law 751 .iadd 1 752 := ⟨by decide +kernel, rfl⟩
theorem d_LawX_law_752 : zd b_LawX_law 752 .iaload 1 753 := ⟨by decide +kernel, rfl⟩
theorem d_LawX_law_753 : zd_l .aload_n .aload b_LawX_law 753 0 754 := Or.inl ⟨0, rfl, by decide +kernel, rfl⟩
theorem d_LawX_law_754 : zd_l .iload_n .iload b_LawX_law 754 3 755 := Or.inl ⟨3, rfl, by decide +kernel, rfl⟩
theorem d_LawX_law_755 : zd_k b_LawX_law "SameTuesdayLaw" 755 4 756 := Or.inl ⟨4, by decide +kernel, by decide, rfl⟩
theorem d_LawX_law_756 : zd b_LawX_law 756 .iadd 1 757 := ⟨by decide +kernel, rfl⟩
theorem d_LawX_law_757 : zd b_LawX_law 757 .iaload 1 758 := ⟨by decide +kernel, rfl⟩
theorem d_LawX_law_758 : zd_l .aload_n .aload b_LawX_law 758 0 759 := Or.inl ⟨0, rfl, by decide +kernel, rfl⟩
theorem d_LawX_law_759 : zd_l .iload_n .iload b_LawX_law 759 3 760 := Or.inl ⟨3, rfl, by decide +kernel, rfl⟩
theorem d_LawX_law_760 : zd_k b_LawX_law "SameTuesdayLaw" 760 5 761 := Or.inl ⟨5, by decide +kernel, by decide, rfl⟩
theorem d_LawX_law_761 : zd b_LawX_law 761 .iadd 1 762 := ⟨by decide +kernel, rfl⟩
theorem d_LawX_law_762 : zd b_LawX_law 762 .iaload 1 763 := ⟨by decide +kernel, rfl⟩
theorem d_LawX_law_763 : zd_l .aload_n .aload b_LawX_law 763 0 764 := Or.inl ⟨0, rfl, by decide +kernel, rfl⟩
theorem d_LawX_law_764 : zd_l .iload_n .iload b_LawX_law 764 3 765 := Or.inl ⟨3, rfl, by decide +kernel, rfl⟩
theorem d_LawX_law_765 : zd_k b_LawX_law "SameTuesdayLaw" 765 6 767 := Or.inr (Or.inl ⟨6, by decide +kernel, by decide, rfl⟩)
theorem d_LawX_law_767 : zd b_LawX_law 767 .iadd 1 768 := ⟨by decide +kernel, rfl⟩
theorem d_LawX_law_768 : zd b_LawX_law 768 .iaload 1 769 := ⟨by decide +kernel, rfl⟩
theorem d_LawX_law_769 : zd b_LawX_law 769 (.invokevirtual 86) 3 772 := ⟨by decide +kernel, rfl⟩
theorem d_LawX_law_772 : zd_b b_LawX_law 772 (.if_icmp .eq) 775 1197 := ⟨425, by decide +kernel, by decide, rfl⟩
theorem d_LawX_law_775 : zd_k b_LawX_law "SameTuesdayLaw" 775 0 776 := Or.inl ⟨0, by decide +kernel, by decide, rfl⟩
theorem d_LawX_law_776 : zd b_LawX_law 776 .ireturn 1 777 := ⟨by decide +kernel, rfl⟩
theorem d_LawX_law_777 : zd_l .aload_n .aload b_LawX_law 777 1 778 := Or.inl ⟨1, rfl, by decide +kernel, rfl⟩
theorem d_LawX_law_778 : zd_l .aload_n .aload b_LawX_law 778 0 779 := Or.inl ⟨0, rfl, by decide +kernel, rfl⟩
theorem d_LawX_law_779 : zd_l .iload_n .iload b_LawX_law 779 3 780 := Or.inl ⟨3, rfl, by decide +kernel, rfl⟩
theorem d_LawX_law_780 : zd_k b_LawX_law "SameTuesdayLaw" 780 1 781 := Or.inl ⟨1, by decide +kernel, by decide, rfl⟩
theorem d_LawX_law_781 : zd b_LawX_law 781 .iadd 1 782 := ⟨by decide +kernel, rfl⟩
theorem d_LawX_law_782 : zd b_LawX_law 782 .iaload 1 783 := ⟨by decide +kernel, rfl⟩
theorem d_LawX_law_783 : zd_l .aload_n .aload b_LawX_law 783 0 784 := Or.inl ⟨0, rfl, by decide +kernel, rfl⟩
theorem d_LawX_law_784 : zd_l .iload_n .iload b_LawX_law 784 3 785 := Or.inl ⟨3, rfl, by decide +kernel, rfl⟩
theorem d_LawX_law_785 : zd_k b_LawX_law "SameTuesdayLaw" 785 2 786 := Or.inl ⟨2, by decide +kernel, by decide, rfl⟩
theorem d_LawX_law_786 : zd b_LawX_law 786 .iadd 1 787 := ⟨by decide +kernel, rfl⟩
theorem d_LawX_law_787 : zd b_LawX_law 787 .iaload 1 788 := ⟨by decide +kernel, rfl⟩
theorem d_LawX_law_788 : zd_l .aload_n .aload b_LawX_law 788 0 789 := Or.inl ⟨0, rfl, by decide +kernel, rfl⟩
theorem d_LawX_law_789 : zd_l .iload_n .iload b_LawX_law 789 3 790 := Or.inl ⟨3, rfl, by decide +kernel, rfl⟩
theorem d_LawX_law_790 : zd_k b_LawX_law "SameTuesdayLaw" 790 3 791 := Or.inl ⟨3, by decide +kernel, by decide, rfl⟩
theorem d_LawX_law_791 : zd b_LawX_law 791 .iadd 1 792 := ⟨by decide +kernel, rfl⟩
theorem d_LawX_law_792 : zd b_LawX_law 792 .iaload 1 793 := ⟨by decide +kernel, rfl⟩
theorem d_LawX_law_793 : zd_l .aload_n .aload b_LawX_law 793 0 794 := Or.inl ⟨0, rfl, by decide +kernel, rfl⟩
theorem d_LawX_law_794 : zd_l .iload_n .iload b_LawX_law 794 3 795 := Or.inl ⟨3, rfl, by decide +kernel, rfl⟩
theorem d_LawX_law_795 : zd_k b_LawX_law "SameTuesdayLaw" 795 4 796 := Or.inl ⟨4, by decide +kernel, by decide, rfl⟩
theorem d_LawX_law_796 : zd b_LawX_law 796 .iadd 1 797 := ⟨by decide +kernel, rfl⟩
theorem d_LawX_law_797 : zd b_LawX_law 797 .iaload 1 798 := ⟨by decide +kernel, rfl⟩
theorem d_LawX_law_798 : zd_l .aload_n .aload b_LawX_law 798 0 799 := Or.inl ⟨0, rfl, by decide +kernel, rfl⟩
theorem d_LawX_law_799 : zd_l .iload_n .iload b_LawX_law 799 3 800 := Or.inl ⟨3, rfl, by decide +kernel, rfl⟩
theorem d_LawX_law_800 : zd_k b_LawX_law "SameTuesdayLaw" 800 5 801 := Or.inl ⟨5, by decide +kernel, by decide, rfl⟩
theorem d_LawX_law_801 : zd b_LawX_law 801 .iadd 1 802 := ⟨by decide +kernel, rfl⟩
theorem d_LawX_law_802 : zd b_LawX_law 802 .iaload 1 803 := ⟨by decide +kernel, rfl⟩
theorem d_LawX_law_803 : zd_l .aload_n .aload b_LawX_law 803 0 804 := Or.inl ⟨0, rfl, by decide +kernel, rfl⟩
theorem d_LawX_law_804 : zd_l .iload_n .iload b_LawX_law 804 3 805 := Or.inl ⟨3, rfl, by decide +kernel, rfl⟩
theorem d_LawX_law_805 : zd_k b_LawX_law "SameTuesdayLaw" 805 6 807 := Or.inr (Or.inl ⟨6, by decide +kernel, by decide, rfl⟩)
theorem d_LawX_law_807 : zd b_LawX_law 807 .iadd 1 808 := ⟨by decide +kernel, rfl⟩
theorem d_LawX_law_808 : zd b_LawX_law 808 .iaload 1 809 := ⟨by decide +kernel, rfl⟩
theorem d_LawX_law_809 : zd b_LawX_law 809 (.invokevirtual 87) 3 812 := ⟨by decide +kernel, rfl⟩
theorem d_LawX_law_812 : zd_l .aload_n .aload b_LawX_law 812 2 813 := Or.inl ⟨2, rfl, by decide +kernel, rfl⟩
theorem d_LawX_law_813 : zd_l .aload_n .aload b_LawX_law 813 0 814 := Or.inl ⟨0, rfl, by decide +kernel, rfl⟩
theorem d_LawX_law_814 : zd_l .iload_n .iload b_LawX_law 814 3 815 := Or.inl ⟨3, rfl, by decide +kernel, rfl⟩
theorem d_LawX_law_815 : zd_k b_LawX_law "SameTuesdayLaw" 815 1 816 := Or.inl ⟨1, by decide +kernel, by decide, rfl⟩
theorem d_LawX_law_816 : zd b_LawX_law 816 .iadd 1 817 := ⟨by decide +kernel, rfl⟩
theorem d_LawX_law_817 : zd b_LawX_law 817 .iaload 1 818 := ⟨by decide +kernel, rfl⟩
theorem d_LawX_law_818 : zd_l .aload_n .aload b_LawX_law 818 0 819 := Or.inl ⟨0, rfl, by decide +kernel, rfl⟩
theorem d_LawX_law_819 : zd_l .iload_n .iload b_LawX_law 819 3 820 := Or.inl ⟨3, rfl, by decide +kernel, rfl⟩
theorem d_LawX_law_820 : zd_k b_LawX_law "SameTuesdayLaw" 820 2 821 := Or.inl ⟨2, by decide +kernel, by decide, rfl⟩
theorem d_LawX_law_821 : zd b_LawX_law 821 .iadd 1 822 := ⟨by decide +kernel, rfl⟩
theorem d_LawX_law_822 : zd b_LawX_law 822 .iaload 1 823 := ⟨by decide +kernel, rfl⟩
theorem d_LawX_law_823 : zd_l .aload_n .aload b_LawX_law 823 0 824 := Or.inl ⟨0, rfl, by decide +kernel, rfl⟩
theorem d_LawX_law_824 : zd_l .iload_n .iload b_LawX_law 824 3 825 := Or.inl ⟨3, rfl, by decide +kernel, rfl⟩
theorem d_LawX_law_825 : zd_k b_LawX_law "SameTuesdayLaw" 825 3 826 := Or.inl ⟨3, by decide +kernel, by decide, rfl⟩
theorem d_LawX_law_826 : zd b_LawX_law 826 .iadd 1 827 := ⟨by decide +kernel, rfl⟩
theorem d_LawX_law_827 : zd b_LawX_law 827 .iaload 1 828 := ⟨by decide +kernel, rfl⟩
theorem d_LawX_law_828 : zd_l .aload_n .aload b_LawX_law 828 0 829 := Or.inl ⟨0, rfl, by decide +kernel, rfl⟩
theorem d_LawX_law_829 : zd_l .iload_n .iload b_LawX_law 829 3 830 := Or.inl ⟨3, rfl, by decide +kernel, rfl⟩
theorem d_LawX_law_830 : zd_k b_LawX_law "SameTuesdayLaw" 830 4 831 := Or.inl ⟨4, by decide +kernel, by decide, rfl⟩
theorem d_LawX_law_831 : zd b_LawX_law 831 .iadd 1 832 := ⟨by decide +kernel, rfl⟩
theorem d_LawX_law_832 : zd b_LawX_law 832 .iaload 1 833 := ⟨by decide +kernel, rfl⟩
theorem d_LawX_law_833 : zd_l .aload_n .aload b_LawX_law 833 0 834 := Or.inl ⟨0, rfl, by decide +kernel, rfl⟩
theorem d_LawX_law_834 : zd_l .iload_n .iload b_LawX_law 834 3 835 := Or.inl ⟨3, rfl, by decide +kernel, rfl⟩
theorem d_LawX_law_835 : zd_k b_LawX_law "SameTuesdayLaw" 835 5 836 := Or.inl ⟨5, by decide +kernel, by decide, rfl⟩
theorem d_LawX_law_836 : zd b_LawX_law 836 .iadd 1 837 := ⟨by decide +kernel, rfl⟩
theorem d_LawX_law_837 : zd b_LawX_law 837 .iaload 1 838 := ⟨by decide +kernel, rfl⟩
theorem d_LawX_law_838 : zd_l .aload_n .aload b_LawX_law 838 0 839 := Or.inl ⟨0, rfl, by decide +kernel, rfl⟩
theorem d_LawX_law_839 : zd_l .iload_n .iload b_LawX_law 839 3 840 := Or.inl ⟨3, rfl, by decide +kernel, rfl⟩
theorem d_LawX_law_840 : zd_k b_LawX_law "SameTuesdayLaw" 840 6 842 := Or.inr (Or.inl ⟨6, by decide +kernel, by decide, rfl⟩)
theorem d_LawX_law_842 : zd b_LawX_law 842 .iadd 1 843 := ⟨by decide +kernel, rfl⟩
theorem d_LawX_law_843 : zd b_LawX_law 843 .iaload 1 844 := ⟨by decide +kernel, rfl⟩
theorem d_LawX_law_844 : zd b_LawX_law 844 (.invokevirtual 91) 3 847 := ⟨by decide +kernel, rfl⟩
theorem d_LawX_law_847 : zd b_LawX_law 847 .lcmp 1 848 := ⟨by decide +kernel, rfl⟩
theorem d_LawX_law_848 : zd_b b_LawX_law 848 (.ifCond .eq) 851 1197 := ⟨349, by decide +kernel, by decide, rfl⟩
theorem d_LawX_law_851 : zd_k b_LawX_law "SameTuesdayLaw" 851 0 852 := Or.inl ⟨0, by decide +kernel, by decide, rfl⟩
theorem d_LawX_law_852 : zd b_LawX_law 852 .ireturn 1 853 := ⟨by decide +kernel, rfl⟩
theorem d_LawX_law_853 : zd_l .aload_n .aload b_LawX_law 853 1 854 := Or.inl ⟨1, rfl, by decide +kernel, rfl⟩
theorem d_LawX_law_854 : zd_l .aload_n .aload b_LawX_law 854 0 855 := Or.inl ⟨0, rfl, by decide +kernel, rfl⟩
theorem d_LawX_law_855 : zd_l .iload_n .iload b_LawX_law 855 3 856 := Or.inl ⟨3, rfl, by decide +kernel, rfl⟩
theorem d_LawX_law_856 : zd_k b_LawX_law "SameTuesdayLaw" 856 1 857 := Or.inl ⟨1, by decide +kernel, by decide, rfl⟩
theorem d_LawX_law_857 : zd b_LawX_law 857 .iadd 1 858 := ⟨by decide +kernel, rfl⟩
theorem d_LawX_law_858 : zd b_LawX_law 858 .iaload 1 859 := ⟨by decide +kernel, rfl⟩
theorem d_LawX_law_859 : zd_l .aload_n .aload b_LawX_law 859 0 860 := Or.inl ⟨0, rfl, by decide +kernel, rfl⟩
theorem d_LawX_law_860 : zd_l .iload_n .iload b_LawX_law 860 3 861 := Or.inl ⟨3, rfl, by decide +kernel, rfl⟩
theorem d_LawX_law_861 : zd_k b_LawX_law "SameTuesdayLaw" 861 2 862 := Or.inl ⟨2, by decide +kernel, by decide, rfl⟩
theorem d_LawX_law_862 : zd b_LawX_law 862 .iadd 1 863 := ⟨by decide +kernel, rfl⟩
theorem d_LawX_law_863 : zd b_LawX_law 863 .iaload 1 864 := ⟨by decide +kernel, rfl⟩
theorem d_LawX_law_864 : zd_l .aload_n .aload b_LawX_law 864 0 865 := Or.inl ⟨0, rfl, by decide +kernel, rfl⟩
theorem d_LawX_law_865 : zd_l .iload_n .iload b_LawX_law 865 3 866 := Or.inl ⟨3, rfl, by decide +kernel, rfl⟩
theorem d_LawX_law_866 : zd_k b_LawX_law "SameTuesdayLaw" 866 3 867 := Or.inl ⟨3, by decide +kernel, by decide, rfl⟩
theorem d_LawX_law_867 : zd b_LawX_law 867 .iadd 1 868 := ⟨by decide +kernel, rfl⟩
theorem d_LawX_law_868 : zd b_LawX_law 868 .iaload 1 869 := ⟨by decide +kernel, rfl⟩
theorem d_LawX_law_869 : zd b_LawX_law 869 (.invokevirtual 92) 3 872 := ⟨by decide +kernel, rfl⟩
theorem d_LawX_law_872 : zd_l .aload_n .aload b_LawX_law 872 2 873 := Or.inl ⟨2, rfl, by decide +kernel, rfl⟩
theorem d_LawX_law_873 : zd_l .aload_n .aload b_LawX_law 873 0 874 := Or.inl ⟨0, rfl, by decide +kernel, rfl⟩
theorem d_LawX_law_874 : zd_l .iload_n .iload b_LawX_law 874 3 875 := Or.inl ⟨3, rfl, by decide +kernel, rfl⟩
theorem d_LawX_law_875 : zd_k b_LawX_law "SameTuesdayLaw" 875 1 876 := Or.inl ⟨1, by decide +kernel, by decide, rfl⟩
theorem d_LawX_law_876 : zd b_LawX_law 876 .iadd 1 877 := ⟨by decide +kernel, rfl⟩
theorem d_LawX_law_877 : zd b_LawX_law 877 .iaload 1 878 := ⟨by decide +kernel, rfl⟩
theorem d_LawX_law_878 : zd_l .aload_n .aload b_LawX_law 878 0 879 := Or.inl ⟨0, rfl, by decide +kernel, rfl⟩
theorem d_LawX_law_879 : zd_l .iload_n .iload b_LawX_law 879 3 880 := Or.inl ⟨3, rfl, by decide +kernel, rfl⟩
theorem d_LawX_law_880 : zd_k b_LawX_law "SameTuesdayLaw" 880 2 881 := Or.inl ⟨2, by decide +kernel, by decide, rfl⟩
theorem d_LawX_law_881 : zd b_LawX_law 881 .iadd 1 882 := ⟨by decide +kernel, rfl⟩
theorem d_LawX_law_882 : zd b_LawX_law 882 .iaload 1 883 := ⟨by decide +kernel, rfl⟩
theorem d_LawX_law_883 : zd_l .aload_n .aload b_LawX_law 883 0 884 := Or.inl ⟨0, rfl, by decide +kernel, rfl⟩
theorem d_LawX_law_884 : zd_l .iload_n .iload b_LawX_law 884 3 885 := Or.inl ⟨3, rfl, by decide +kernel, rfl⟩
theorem d_LawX_law_885 : zd_k b_LawX_law "SameTuesdayLaw" 885 3 886 := Or.inl ⟨3, by decide +kernel, by decide, rfl⟩
theorem d_LawX_law_886 : zd b_LawX_law 886 .iadd 1 887 := ⟨by decide +kernel, rfl⟩
theorem d_LawX_law_887 : zd b_LawX_law 887 .iaload 1 888 := ⟨by decide +kernel, rfl⟩
theorem d_LawX_law_888 : zd b_LawX_law 888 (.invokevirtual 96) 3 891 := ⟨by decide +kernel, rfl⟩
theorem d_LawX_law_891 : zd_b b_LawX_law 891 (.if_icmp .eq) 894 1197 := ⟨306, by decide +kernel, by decide, rfl⟩
theorem d_LawX_law_894 : zd_k b_LawX_law "SameTuesdayLaw" 894 0 895 := Or.inl ⟨0, by decide +kernel, by decide, rfl⟩
theorem d_LawX_law_895 : zd b_LawX_law 895 .ireturn 1 896 := ⟨by decide +kernel, rfl⟩
theorem d_LawX_law_896 : zd_l .aload_n .aload b_LawX_law 896 1 897 := Or.inl ⟨1, rfl, by decide +kernel, rfl⟩
theorem d_LawX_law_897 : zd_l .aload_n .aload b_LawX_law 897 0 898 := Or.inl ⟨0, rfl, by decide +kernel, rfl⟩
theorem d_LawX_law_898 : zd_l .iload_n .iload b_LawX_law 898 3 899 := Or.inl ⟨3, rfl, by decide +kernel, rfl⟩
theorem d_LawX_law_899 : zd_k b_LawX_law "SameTuesdayLaw" 899 1 900 := Or.inl ⟨1, by decide +kernel, by decide, rfl⟩
theorem d_LawX_law_900 : zd b_LawX_law 900 .iadd 1 901 := ⟨by decide +kernel, rfl⟩
theorem d_LawX_law_901 : zd b_LawX_law 901 .iaload 1 902 := ⟨by decide +kernel, rfl⟩
theorem d_LawX_law_902 : zd b_LawX_law 902 (.invokevirtual 97) 3 905 := ⟨by decide +kernel, rfl⟩
theorem d_LawX_law_905 : zd_l .aload_n .aload b_LawX_law 905 2 906 := Or.inl ⟨2, rfl, by decide +kernel, rfl⟩
theorem d_LawX_law_906 : zd_l .aload_n .aload b_LawX_law 906 0 907 := Or.inl ⟨0, rfl, by decide +kernel, rfl⟩
theorem d_LawX_law_907 : zd_l .iload_n .iload b_LawX_law 907 3 908 := Or.inl ⟨3, rfl, by decide +kernel, rfl⟩
theorem d_LawX_law_908 : zd_k b_LawX_law "SameTuesdayLaw" 908 1 909 := Or.inl ⟨1, by decide +kernel, by decide, rfl⟩
theorem d_LawX_law_909 : zd b_LawX_law 909 .iadd 1 910 := ⟨by decide +kernel, rfl⟩
theorem d_LawX_law_910 : zd b_LawX_law 910 .iaload 1 911 := ⟨by decide +kernel, rfl⟩
theorem d_LawX_law_911 : zd b_LawX_law 911 (.invokevirtual 100) 3 914 := ⟨by decide +kernel, rfl⟩
theorem d_LawX_law_914 : zd_b b_LawX_law 914 (.if_icmp .eq) 917 1197 := ⟨283, by decide +kernel, by decide, rfl⟩
theorem d_LawX_law_917 : zd_k b_LawX_law "SameTuesdayLaw" 917 0 918 := Or.inl ⟨0, by decide +kernel, by decide, rfl⟩
theorem d_LawX_law_918 : zd b_LawX_law 918 .ireturn 1 919 := ⟨by decide +kernel, rfl⟩
theorem d_LawX_law_919 : zd_l .aload_n .aload b_LawX_law 919 1 920 := Or.inl ⟨1, rfl, by decide +kernel, rfl⟩
theorem d_LawX_law_920 : zd_l .aload_n .aload b_LawX_law 920 0 921 := Or.inl ⟨0, rfl, by decide +kernel, rfl⟩
theorem d_LawX_law_921 : zd_l .iload_n .iload b_LawX_law 921 3 922 := Or.inl ⟨3, rfl, by decide +kernel, rfl⟩
theorem d_LawX_law_922 : zd_k b_LawX_law "SameTuesdayLaw" 922 1 923 := Or.inl ⟨1, by decide +kernel, by decide, rfl⟩
theorem d_LawX_law_923 : zd b_LawX_law 923 .iadd 1 924 := ⟨by decide +kernel, rfl⟩
theorem d_LawX_law_924 : zd b_LawX_law 924 .iaload 1 925 := ⟨by decide +kernel, rfl⟩
theorem d_LawX_law_925 : zd_l .aload_n .aload b_LawX_law 925 0 926 := Or.inl ⟨0, rfl, by decide +kernel, rfl⟩
theorem d_LawX_law_926 : zd_l .iload_n .iload b_LawX_law 926 3 927 := Or.inl ⟨3, rfl, by decide +kernel, rfl⟩
theorem d_LawX_law_927 : zd_k b_LawX_law "SameTuesdayLaw" 927 2 928 := Or.inl ⟨2, by decide +kernel, by decide, rfl⟩
theorem d_LawX_law_928 : zd b_LawX_law 928 .iadd 1 929 := ⟨by decide +kernel, rfl⟩
theorem d_LawX_law_929 : zd b_LawX_law 929 .iaload 1 930 := ⟨by decide +kernel, rfl⟩
theorem d_LawX_law_930 : zd_l .aload_n .aload b_LawX_law 930 0 931 := Or.inl ⟨0, rfl, by decide +kernel, rfl⟩
theorem d_LawX_law_931 : zd_l .iload_n .iload b_LawX_law 931 3 932 := Or.inl ⟨3, rfl, by decide +kernel, rfl⟩
theorem d_LawX_law_932 : zd_k b_LawX_law "SameTuesdayLaw" 932 3 933 := Or.inl ⟨3, by decide +kernel, by decide, rfl⟩
theorem d_LawX_law_933 : zd b_LawX_law 933 .iadd 1 934 := ⟨by decide +kernel, rfl⟩
theorem d_LawX_law_934 : zd b_LawX_law 934 .iaload 1 935 := ⟨by decide +kernel, rfl⟩
theorem d_LawX_law_935 : zd b_LawX_law 935 (.invokevirtual 101) 3 938 := ⟨by decide +kernel, rfl⟩
theorem d_LawX_law_938 : zd_l .aload_n .aload b_LawX_law 938 2 939 := Or.inl ⟨2, rfl, by decide +kernel, rfl⟩
theorem d_LawX_law_939 : zd_l .aload_n .aload b_LawX_law 939 0 940 := Or.inl ⟨0, rfl, by decide +kernel, rfl⟩
theorem d_LawX_law_940 : zd_l .iload_n .iload b_LawX_law 940 3 941 := Or.inl ⟨3, rfl, by decide +kernel, rfl⟩
theorem d_LawX_law_941 : zd_k b_LawX_law "SameTuesdayLaw" 941 1 942 := Or.inl ⟨1, by decide +kernel, by decide, rfl⟩
theorem d_LawX_law_942 : zd b_LawX_law 942 .iadd 1 943 := ⟨by decide +kernel, rfl⟩
theorem d_LawX_law_943 : zd b_LawX_law 943 .iaload 1 944 := ⟨by decide +kernel, rfl⟩
theorem d_LawX_law_944 : zd_l .aload_n .aload b_LawX_law 944 0 945 := Or.inl ⟨0, rfl, by decide +kernel, rfl⟩
theorem d_LawX_law_945 : zd_l .iload_n .iload b_LawX_law 945 3 946 := Or.inl ⟨3, rfl, by decide +kernel, rfl⟩
theorem d_LawX_law_946 : zd_k b_LawX_law "SameTuesdayLaw" 946 2 947 := Or.inl ⟨2, by decide +kernel, by decide, rfl⟩
theorem d_LawX_law_947 : zd b_LawX_law 947 .iadd 1 948 := ⟨by decide +kernel, rfl⟩
theorem d_LawX_law_948 : zd b_LawX_law 948 .iaload 1 949 := ⟨by decide +kernel, rfl⟩
theorem d_LawX_law_949 : zd_l .aload_n .aload b_LawX_law 949 0 950 := Or.inl ⟨0, rfl, by decide +kernel, rfl⟩
theorem d_LawX_law_950 : zd_l .iload_n .iload b_LawX_law 950 3 951 := Or.inl ⟨3, rfl, by decide +kernel, rfl⟩
theorem d_LawX_law_951 : zd_k b_LawX_law "SameTuesdayLaw" 951 3 952 := Or.inl ⟨3, by decide +kernel, by decide, rfl⟩
theorem d_LawX_law_952 : zd b_LawX_law 952 .iadd 1 953 := ⟨by decide +kernel, rfl⟩
theorem d_LawX_law_953 : zd b_LawX_law 953 .iaload 1 954 := ⟨by decide +kernel, rfl⟩
theorem d_LawX_law_954 : zd b_LawX_law 954 (.invokevirtual 104) 3 957 := ⟨by decide +kernel, rfl⟩
theorem d_LawX_law_957 : zd_b b_LawX_law 957 (.if_icmp .eq) 960 1197 := ⟨240, by decide +kernel, by decide, rfl⟩
theorem d_LawX_law_960 : zd_k b_LawX_law "SameTuesdayLaw" 960 0 961 := Or.inl ⟨0, by decide +kernel, by decide, rfl⟩
theorem d_LawX_law_961 : zd b_LawX_law 961 .ireturn 1 962 := ⟨by decide +kernel, rfl⟩
theorem d_LawX_law_962 : zd_l .aload_n .aload b_LawX_law 962 1 963 := Or.inl ⟨1, rfl, by decide +kernel, rfl⟩
theorem d_LawX_law_963 : zd_l .aload_n .aload b_LawX_law 963 0 964 := Or.inl ⟨0, rfl, by decide +kernel, rfl⟩
theorem d_LawX_law_964 : zd_l .iload_n .iload b_LawX_law 964 3 965 := Or.inl ⟨3, rfl, by decide +kernel, rfl⟩
theorem d_LawX_law_965 : zd_k b_LawX_law "SameTuesdayLaw" 965 1 966 := Or.inl ⟨1, by decide +kernel, by decide, rfl⟩
theorem d_LawX_law_966 : zd b_LawX_law 966 .iadd 1 967 := ⟨by decide +kernel, rfl⟩
theorem d_LawX_law_967 : zd b_LawX_law 967 .iaload 1 968 := ⟨by decide +kernel, rfl⟩
theorem d_LawX_law_968 : zd_l .aload_n .aload b_LawX_law 968 0 969 := Or.inl ⟨0, rfl, by decide +kernel, rfl⟩
theorem d_LawX_law_969 : zd_l .iload_n .iload b_LawX_law 969 3 970 := Or.inl ⟨3, rfl, by decide +kernel, rfl⟩
theorem d_LawX_law_970 : zd_k b_LawX_law "SameTuesdayLaw" 970 2 971 := Or.inl ⟨2, by decide +kernel, by decide, rfl⟩
theorem d_LawX_law_971 : zd b_LawX_law 971 .iadd 1 972 := ⟨by decide +kernel, rfl⟩
theorem d_LawX_law_972 : zd b_LawX_law 972 .iaload 1 973 := ⟨by decide +kernel, rfl⟩
theorem d_LawX_law_973 : zd_l .aload_n .aload b_LawX_law 973 0 974 := Or.inl ⟨0, rfl, by decide +kernel, rfl⟩
theorem d_LawX_law_974 : zd_l .iload_n .iload b_LawX_law 974 3 975 := Or.inl ⟨3, rfl, by decide +kernel, rfl⟩
theorem d_LawX_law_975 : zd_k b_LawX_law "SameTuesdayLaw" 975 3 976 := Or.inl ⟨3, by decide +kernel, by decide, rfl⟩
theorem d_LawX_law_976 : zd b_LawX_law 976 .iadd 1 977 := ⟨by decide +kernel, rfl⟩
theorem d_LawX_law_977 : zd b_LawX_law 977 .iaload 1 978 := ⟨by decide +kernel, rfl⟩
theorem d_LawX_law_978 : zd b_LawX_law 978 (.invokevirtual 105) 3 981 := ⟨by decide +kernel, rfl⟩
theorem d_LawX_law_981 : zd_l .aload_n .aload b_LawX_law 981 2 982 := Or.inl ⟨2, rfl, by decide +kernel, rfl⟩
theorem d_LawX_law_982 : zd_l .aload_n .aload b_LawX_law 982 0 983 := Or.inl ⟨0, rfl, by decide +kernel, rfl⟩
theorem d_LawX_law_983 : zd_l .iload_n .iload b_LawX_law 983 3 984 := Or.inl ⟨3, rfl, by decide +kernel, rfl⟩
theorem d_LawX_law_984 : zd_k b_LawX_law "SameTuesdayLaw" 984 1 985 := Or.inl ⟨1, by decide +kernel, by decide, rfl⟩
theorem d_LawX_law_985 : zd b_LawX_law 985 .iadd 1 986 := ⟨by decide +kernel, rfl⟩
theorem d_LawX_law_986 : zd b_LawX_law 986 .iaload 1 987 := ⟨by decide +kernel, rfl⟩
theorem d_LawX_law_987 : zd_l .aload_n .aload b_LawX_law 987 0 988 := Or.inl ⟨0, rfl, by decide +kernel, rfl⟩
theorem d_LawX_law_988 : zd_l .iload_n .iload b_LawX_law 988 3 989 := Or.inl ⟨3, rfl, by decide +kernel, rfl⟩
theorem d_LawX_law_989 : zd_k b_LawX_law "SameTuesdayLaw" 989 2 990 := Or.inl ⟨2, by decide +kernel, by decide, rfl⟩
theorem d_LawX_law_990 : zd b_LawX_law 990 .iadd 1 991 := ⟨by decide +kernel, rfl⟩
theorem d_LawX_law_991 : zd b_LawX_law 991 .iaload 1 992 := ⟨by decide +kernel, rfl⟩
theorem d_LawX_law_992 : zd_l .aload_n .aload b_LawX_law 992 0 993 := Or.inl ⟨0, rfl, by decide +kernel, rfl⟩
theorem d_LawX_law_993 : zd_l .iload_n .iload b_LawX_law 993 3 994 := Or.inl ⟨3, rfl, by decide +kernel, rfl⟩
theorem d_LawX_law_994 : zd_k b_LawX_law "SameTuesdayLaw" 994 3 995 := Or.inl ⟨3, by decide +kernel, by decide, rfl⟩
theorem d_LawX_law_995 : zd b_LawX_law 995 .iadd 1 996 := ⟨by decide +kernel, rfl⟩
theorem d_LawX_law_996 : zd b_LawX_law 996 .iaload 1 997 := ⟨by decide +kernel, rfl⟩
theorem d_LawX_law_997 : zd b_LawX_law 997 (.invokevirtual 109) 3 1000 := ⟨by decide +kernel, rfl⟩
theorem d_LawX_law_1000 : zd b_LawX_law 1000 .lcmp 1 1001 := ⟨by decide +kernel, rfl⟩
theorem d_LawX_law_1001 : zd_b b_LawX_law 1001 (.ifCond .eq) 1004 1197 := ⟨196, by decide +kernel, by decide, rfl⟩
theorem d_LawX_law_1004 : zd_k b_LawX_law "SameTuesdayLaw" 1004 0 1005 := Or.inl ⟨0, by decide +kernel, by decide, rfl⟩
theorem d_LawX_law_1005 : zd b_LawX_law 1005 .ireturn 1 1006 := ⟨by decide +kernel, rfl⟩
theorem d_LawX_law_1006 : zd_l .aload_n .aload b_LawX_law 1006 1 1007 := Or.inl ⟨1, rfl, by decide +kernel, rfl⟩
theorem d_LawX_law_1007 : zd_l .aload_n .aload b_LawX_law 1007 0 1008 := Or.inl ⟨0, rfl, by decide +kernel, rfl⟩
theorem d_LawX_law_1008 : zd_l .iload_n .iload b_LawX_law 1008 3 1009 := Or.inl ⟨3, rfl, by decide +kernel, rfl⟩
theorem d_LawX_law_1009 : zd_k b_LawX_law "SameTuesdayLaw" 1009 1 1010 := Or.inl ⟨1, by decide +kernel, by decide, rfl⟩
theorem d_LawX_law_1010 : zd b_LawX_law 1010 .iadd 1 1011 := ⟨by decide +kernel, rfl⟩
theorem d_LawX_law_1011 : zd b_LawX_law 1011 .iaload 1 1012 := ⟨by decide +kernel, rfl⟩
theorem d_LawX_law_1012 : zd_l .aload_n .aload b_LawX_law 1012 0 1013 := Or.inl ⟨0, rfl, by decide +kernel, rfl⟩
theorem d_LawX_law_1013 : zd_l .iload_n .iload b_LawX_law 1013 3 1014 := Or.inl ⟨3, rfl, by decide +kernel, rfl⟩
theorem d_LawX_law_1014 : zd_k b_LawX_law "SameTuesdayLaw" 1014 2 1015 := Or.inl ⟨2, by decide +kernel, by decide, rfl⟩
theorem d_LawX_law_1015 : zd b_LawX_law 1015 .iadd 1 1016 := ⟨by decide +kernel, rfl⟩
theorem d_LawX_law_1016 : zd b_LawX_law 1016 .iaload 1 1017 := ⟨by decide +kernel, rfl⟩
theorem d_LawX_law_1017 : zd_l .aload_n .aload b_LawX_law 1017 0 1018 := Or.inl ⟨0, rfl, by decide +kernel, rfl⟩
theorem d_LawX_law_1018 : zd_l .iload_n .iload b_LawX_law 1018 3 1019 := Or.inl ⟨3, rfl, by decide +kernel, rfl⟩
theorem d_LawX_law_1019 : zd_k b_LawX_law "SameTuesdayLaw" 1019 3 1020 := Or.inl ⟨3, by decide +kernel, by decide, rfl⟩
theorem d_LawX_law_1020 : zd b_LawX_law 1020 .iadd 1 1021 := ⟨by decide +kernel, rfl⟩
theorem d_LawX_law_1021 : zd b_LawX_law 1021 .iaload 1 1022 := ⟨by decide +kernel, rfl⟩
theorem d_LawX_law_1022 : zd_l .aload_n .aload b_LawX_law 1022 0 1023 := Or.inl ⟨0, rfl, by decide +kernel, rfl⟩
theorem d_LawX_law_1023 : zd_l .iload_n .iload b_LawX_law 1023 3 1024 := Or.inl ⟨3, rfl, by decide +kernel, rfl⟩
theorem d_LawX_law_1024 : zd_k b_LawX_law "SameTuesdayLaw" 1024 4 1025 := Or.inl ⟨4, by decide +kernel, by decide, rfl⟩
theorem d_LawX_law_1025 : zd b_LawX_law 1025 .iadd 1 1026 := ⟨by decide +kernel, rfl⟩
theorem d_LawX_law_1026 : zd b_LawX_law 1026 .iaload 1 1027 := ⟨by decide +kernel, rfl⟩
theorem d_LawX_law_1027 : zd_l .aload_n .aload b_LawX_law 1027 0 1028 := Or.inl ⟨0, rfl, by decide +kernel, rfl⟩
theorem d_LawX_law_1028 : zd_l .iload_n .iload b_LawX_law 1028 3 1029 := Or.inl ⟨3, rfl, by decide +kernel, rfl⟩
theorem d_LawX_law_1029 : zd_k b_LawX_law "SameTuesdayLaw" 1029 5 1030 := Or.inl ⟨5, by decide +kernel, by decide, rfl⟩
theorem d_LawX_law_1030 : zd b_LawX_law 1030 .iadd 1 1031 := ⟨by decide +kernel, rfl⟩
theorem d_LawX_law_1031 : zd b_LawX_law 1031 .iaload 1 1032 := ⟨by decide +kernel, rfl⟩
theorem d_LawX_law_1032 : zd b_LawX_law 1032 (.invokevirtual 110) 3 1035 := ⟨by decide +kernel, rfl⟩
theorem d_LawX_law_1035 : zd_l .aload_n .aload b_LawX_law 1035 2 1036 := Or.inl ⟨2, rfl, by decide +kernel, rfl⟩
theorem d_LawX_law_1036 : zd_l .aload_n .aload b_LawX_law 1036 0 1037 := Or.inl ⟨0, rfl, by decide +kernel, rfl⟩
theorem d_LawX_law_1037 : zd_l .iload_n .iload b_LawX_law 1037 3 1038 := Or.inl ⟨3, rfl, by decide +kernel, rfl⟩
theorem d_LawX_law_1038 : zd_k b_LawX_law "SameTuesdayLaw" 1038 1 1039 := Or.inl ⟨1, by decide +kernel, by decide, rfl⟩
theorem d_LawX_law_1039 : zd b_LawX_law 1039 .iadd 1 1040 := ⟨by decide +kernel, rfl⟩
theorem d_LawX_law_1040 : zd b_LawX_law 1040 .iaload 1 1041 := ⟨by decide +kernel, rfl⟩
theorem d_LawX_law_1041 : zd_l .aload_n .aload b_LawX_law 1041 0 1042 := Or.inl ⟨0, rfl, by decide +kernel, rfl⟩
theorem d_LawX_law_1042 : zd_l .iload_n .iload b_LawX_law 1042 3 1043 := Or.inl ⟨3, rfl, by decide +kernel, rfl⟩
theorem d_LawX_law_1043 : zd_k b_LawX_law "SameTuesdayLaw" 1043 2 1044 := Or.inl ⟨2, by decide +kernel, by decide, rfl⟩
theorem d_LawX_law_1044 : zd b_LawX_law 1044 .iadd 1 1045 := ⟨by decide +kernel, rfl⟩
theorem d_LawX_law_1045 : zd b_LawX_law 1045 .iaload 1 1046 := ⟨by decide +kernel, rfl⟩
theorem d_LawX_law_1046 : zd_l .aload_n .aload b_LawX_law 1046 0 1047 := Or.inl ⟨0, rfl, by decide +kernel, rfl⟩
theorem d_LawX_law_1047 : zd_l .iload_n .iload b_LawX_law 1047 3 1048 := Or.inl ⟨3, rfl, by decide +kernel, rfl⟩
theorem d_LawX_law_1048 : zd_k b_LawX_law "SameTuesdayLaw" 1048 3 1049 := Or.inl ⟨3, by decide +kernel, by decide, rfl⟩
theorem d_LawX_law_1049 : zd b_LawX_law 1049 .iadd 1 1050 := ⟨by decide +kernel, rfl⟩
theorem d_LawX_law_1050 : zd b_LawX_law 1050 .iaload 1 1051 := ⟨by decide +kernel, rfl⟩
theorem d_LawX_law_1051 : zd_l .aload_n .aload b_LawX_law 1051 0 1052 := Or.inl ⟨0, rfl, by decide +kernel, rfl⟩
theorem d_LawX_law_1052 : zd_l .iload_n .iload b_LawX_law 1052 3 1053 := Or.inl ⟨3, rfl, by decide +kernel, rfl⟩
theorem d_LawX_law_1053 : zd_k b_LawX_law "SameTuesdayLaw" 1053 4 1054 := Or.inl ⟨4, by decide +kernel, by decide, rfl⟩
theorem d_LawX_law_1054 : zd b_LawX_law 1054 .iadd 1 1055 := ⟨by decide +kernel, rfl⟩
theorem d_LawX_law_1055 : zd b_LawX_law 1055 .iaload 1 1056 := ⟨by decide +kernel, rfl⟩
theorem d_LawX_law_1056 : zd_l .aload_n .aload b_LawX_law 1056 0 1057 := Or.inl ⟨0, rfl, by decide +kernel, rfl⟩
theorem d_LawX_law_1057 : zd_l .iload_n .iload b_LawX_law 1057 3 1058 := Or.inl ⟨3, rfl, by decide +kernel, rfl⟩
theorem d_LawX_law_1058 : zd_k b_LawX_law "SameTuesdayLaw" 1058 5 1059 := Or.inl ⟨5, by decide +kernel, by decide, rfl⟩
theorem d_LawX_law_1059 : zd b_LawX_law 1059 .iadd 1 1060 := ⟨by decide +kernel, rfl⟩
theorem d_LawX_law_1060 : zd b_LawX_law 1060 .iaload 1 1061 := ⟨by decide +kernel, rfl⟩
theorem d_LawX_law_1061 : zd b_LawX_law 1061 (.invokevirtual 113) 3 1064 := ⟨by decide +kernel, rfl⟩
theorem d_LawX_law_1064 : zd_b b_LawX_law 1064 (.if_icmp .eq) 1067 1197 := ⟨133, by decide +kernel, by decide, rfl⟩
theorem d_LawX_law_1067 : zd_k b_LawX_law "SameTuesdayLaw" 1067 0 1068 := Or.inl ⟨0, by decide +kernel, by decide, rfl⟩
theorem d_LawX_law_1068 : zd b_LawX_law 1068 .ireturn 1 1069 := ⟨by decide +kernel, rfl⟩
theorem d_LawX_law_1069 : zd_l .aload_n .aload b_LawX_law 1069 1 1070 := Or.inl ⟨1, rfl, by decide +kernel, rfl⟩
theorem d_LawX_law_1070 : zd_l .aload_n .aload b_LawX_law 1070 0 1071 := Or.inl ⟨0, rfl, by decide +kernel, rfl⟩
theorem d_LawX_law_1071 : zd_l .iload_n .iload b_LawX_law 1071 3 1072 := Or.inl ⟨3, rfl, by decide +kernel, rfl⟩
theorem d_LawX_law_1072 : zd_k b_LawX_law "SameTuesdayLaw" 1072 1 1073 := Or.inl ⟨1, by decide +kernel, by decide, rfl⟩
theorem d_LawX_law_1073 : zd b_LawX_law 1073 .iadd 1 1074 := ⟨by decide +kernel, rfl⟩
theorem d_LawX_law_1074 : zd b_LawX_law 1074 .iaload 1 1075 := ⟨by decide +kernel, rfl⟩
theorem d_LawX_law_1075 : zd b_LawX_law 1075 (.invokevirtual 114) 3 1078 := ⟨by decide +kernel, rfl⟩
theorem d_LawX_law_1078 : zd_l .aload_n .aload b_LawX_law 1078 2 1079 := Or.inl ⟨2, rfl, by decide +kernel, rfl⟩
theorem d_LawX_law_1079 : zd_l .aload_n .aload b_LawX_law 1079 0 1080 := Or.inl ⟨0, rfl, by decide +kernel, rfl⟩
theorem d_LawX_law_1080 : zd_l .iload_n .iload b_LawX_law 1080 3 1081 := Or.inl ⟨3, rfl, by decide +kernel, rfl⟩
theorem d_LawX_law_1081 : zd_k b_LawX_law "SameTuesdayLaw" 1081 1 1082 := Or.inl ⟨1, by decide +kernel, by decide, rfl⟩
theorem d_LawX_law_1082 : zd b_LawX_law 1082 .iadd 1 1083 := ⟨by decide +kernel, rfl⟩
theorem d_LawX_law_1083 : zd b_LawX_law 1083 .iaload 1 1084 := ⟨by decide +kernel, rfl⟩
theorem d_LawX_law_1084 : zd b_LawX_law 1084 (.invokevirtual 117) 3 1087 := ⟨by decide +kernel, rfl⟩
theorem d_LawX_law_1087 : zd_b b_LawX_law 1087 (.if_icmp .eq) 1090 1197 := ⟨110, by decide +kernel, by decide, rfl⟩
theorem d_LawX_law_1090 : zd_k b_LawX_law "SameTuesdayLaw" 1090 0 1091 := Or.inl ⟨0, by decide +kernel, by decide, rfl⟩
theorem d_LawX_law_1091 : zd b_LawX_law 1091 .ireturn 1 1092 := ⟨by decide +kernel, rfl⟩
theorem d_LawX_law_1092 : zd_l .aload_n .aload b_LawX_law 1092 1 1093 := Or.inl ⟨1, rfl, by decide +kernel, rfl⟩
theorem d_LawX_law_1093 : zd_l .aload_n .aload b_LawX_law 1093 0 1094 := Or.inl ⟨0, rfl, by decide +kernel, rfl⟩
theorem d_LawX_law_1094 : zd_l .iload_n .iload b_LawX_law 1094 3 1095 := Or.inl ⟨3, rfl, by decide +kernel, rfl⟩
theorem d_LawX_law_1095 : zd_k b_LawX_law "SameTuesdayLaw" 1095 1 1096 := Or.inl ⟨1, by decide +kernel, by decide, rfl⟩
theorem d_LawX_law_1096 : zd b_LawX_law 1096 .iadd 1 1097 := ⟨by decide +kernel, rfl⟩
theorem d_LawX_law_1097 : zd b_LawX_law 1097 .iaload 1 1098 := ⟨by decide +kernel, rfl⟩
theorem d_LawX_law_1098 : zd b_LawX_law 1098 (.invokevirtual 118) 3 1101 := ⟨by decide +kernel, rfl⟩
theorem d_LawX_law_1101 : zd_l .aload_n .aload b_LawX_law 1101 2 1102 := Or.inl ⟨2, rfl, by decide +kernel, rfl⟩
theorem d_LawX_law_1102 : zd_l .aload_n .aload b_LawX_law 1102 0 1103 := Or.inl ⟨0, rfl, by decide +kernel, rfl⟩
theorem d_LawX_law_1103 : zd_l .iload_n .iload b_LawX_law 1103 3 1104 := Or.inl ⟨3, rfl, by decide +kernel, rfl⟩
theorem d_LawX_law_1104 : zd_k b_LawX_law "SameTuesdayLaw" 1104 1 1105 := Or.inl ⟨1, by decide +kernel, by decide, rfl⟩
theorem d_LawX_law_1105 : zd b_LawX_law 1105 .iadd 1 1106 := ⟨by decide +kernel, rfl⟩
theorem d_LawX_law_1106 : zd b_LawX_law 1106 .iaload 1 1107 := ⟨by decide +kernel, rfl⟩
theorem d_LawX_law_1107 : zd b_LawX_law 1107 (.invokevirtual 121) 3 1110 := ⟨by decide +kernel, rfl⟩
theorem d_LawX_law_1110 : zd_b b_LawX_law 1110 (.if_icmp .eq) 1113 1197 := ⟨87, by decide +kernel, by decide, rfl⟩
theorem d_LawX_law_1113 : zd_k b_LawX_law "SameTuesdayLaw" 1113 0 1114 := Or.inl ⟨0, by decide +kernel, by decide, rfl⟩
theorem d_LawX_law_1114 : zd b_LawX_law 1114 .ireturn 1 1115 := ⟨by decide +kernel, rfl⟩
theorem d_LawX_law_1115 : zd_l .aload_n .aload b_LawX_law 1115 1 1116 := Or.inl ⟨1, rfl, by decide +kernel, rfl⟩
theorem d_LawX_law_1116 : zd_l .aload_n .aload b_LawX_law 1116 0 1117 := Or.inl ⟨0, rfl, by decide +kernel, rfl⟩
theorem d_LawX_law_1117 : zd_l .iload_n .iload b_LawX_law 1117 3 1118 := Or.inl ⟨3, rfl, by decide +kernel, rfl⟩
theorem d_LawX_law_1118 : zd_k b_LawX_law "SameTuesdayLaw" 1118 1 1119 := Or.inl ⟨1, by decide +kernel, by decide, rfl⟩
theorem d_LawX_law_1119 : zd b_LawX_law 1119 .iadd 1 1120 := ⟨by decide +kernel, rfl⟩
theorem d_LawX_law_1120 : zd b_LawX_law 1120 .iaload 1 1121 := ⟨by decide +kernel, rfl⟩
theorem d_LawX_law_1121 : zd_l .aload_n .aload b_LawX_law 1121 0 1122 := Or.inl ⟨0, rfl, by decide +kernel, rfl⟩
theorem d_LawX_law_1122 : zd_l .iload_n .iload b_LawX_law 1122 3 1123 := Or.inl ⟨3, rfl, by decide +kernel, rfl⟩
theorem d_LawX_law_1123 : zd_k b_LawX_law "SameTuesdayLaw" 1123 2 1124 := Or.inl ⟨2, by decide +kernel, by decide, rfl⟩
theorem d_LawX_law_1124 : zd b_LawX_law 1124 .iadd 1 1125 := ⟨by decide +kernel, rfl⟩
theorem d_LawX_law_1125 : zd b_LawX_law 1125 .iaload 1 1126 := ⟨by decide +kernel, rfl⟩
theorem d_LawX_law_1126 : zd b_LawX_law 1126 (.invokevirtual 122) 3 1129 := ⟨by decide +kernel, rfl⟩
theorem d_LawX_law_1129 : zd_l .aload_n .aload b_LawX_law 1129 2 1130 := Or.inl ⟨2, rfl, by decide +kernel, rfl⟩
theorem d_LawX_law_1130 : zd_l .aload_n .aload b_LawX_law 1130 0 1131 := Or.inl ⟨0, rfl, by decide +kernel, rfl⟩
theorem d_LawX_law_1131 : zd_l .iload_n .iload b_LawX_law 1131 3 1132 := Or.inl ⟨3, rfl, by decide +kernel, rfl⟩
theorem d_LawX_law_1132 : zd_k b_LawX_law "SameTuesdayLaw" 1132 1 1133 := Or.inl ⟨1, by decide +kernel, by decide, rfl⟩
theorem d_LawX_law_1133 : zd b_LawX_law 1133 .iadd 1 1134 := ⟨by decide +kernel, rfl⟩
theorem d_LawX_law_1134 : zd b_LawX_law 1134 .iaload 1 1135 := ⟨by decide +kernel, rfl⟩
theorem d_LawX_law_1135 : zd_l .aload_n .aload b_LawX_law 1135 0 1136 := Or.inl ⟨0, rfl, by decide +kernel, rfl⟩
theorem d_LawX_law_1136 : zd_l .iload_n .iload b_LawX_law 1136 3 1137 := Or.inl ⟨3, rfl, by decide +kernel, rfl⟩
theorem d_LawX_law_1137 : zd_k b_LawX_law "SameTuesdayLaw" 1137 2 1138 := Or.inl ⟨2, by decide +kernel, by decide, rfl⟩
theorem d_LawX_law_1138 : zd b_LawX_law 1138 .iadd 1 1139 := ⟨by decide +kernel, rfl⟩
theorem d_LawX_law_1139 : zd b_LawX_law 1139 .iaload 1 1140 := ⟨by decide +kernel, rfl⟩
theorem d_LawX_law_1140 : zd b_LawX_law 1140 (.invokevirtual 125) 3 1143 := ⟨by decide +kernel, rfl⟩
theorem d_LawX_law_1143 : zd_b b_LawX_law 1143 (.if_icmp .eq) 1146 1197 := ⟨54, by decide +kernel, by decide, rfl⟩
theorem d_LawX_law_1146 : zd_k b_LawX_law "SameTuesdayLaw" 1146 0 1147 := Or.inl ⟨0, by decide +kernel, by decide, rfl⟩
theorem d_LawX_law_1147 : zd b_LawX_law 1147 .ireturn 1 1148 := ⟨by decide +kernel, rfl⟩
theorem d_LawX_law_1148 : zd_l .aload_n .aload b_LawX_law 1148 1 1149 := Or.inl ⟨1, rfl, by decide +kernel, rfl⟩
theorem d_LawX_law_1149 : zd b_LawX_law 1149 (.invokevirtual 126) 3 1152 := ⟨by decide +kernel, rfl⟩
theorem d_LawX_law_1152 : zd_l .aload_n .aload b_LawX_law 1152 2 1153 := Or.inl ⟨2, rfl, by decide +kernel, rfl⟩
theorem d_LawX_law_1153 : zd b_LawX_law 1153 (.invokevirtual 129) 3 1156 := ⟨by decide +kernel, rfl⟩
theorem d_LawX_law_1156 : zd_b b_LawX_law 1156 (.if_icmp .eq) 1159 1197 := ⟨41, by decide +kernel, by decide, rfl⟩
theorem d_LawX_law_1159 : zd_k b_LawX_law "SameTuesdayLaw" 1159 0 1160 := Or.inl ⟨0, by decide +kernel, by decide, rfl⟩
theorem d_LawX_law_1160 : zd b_LawX_law 1160 .ireturn 1 1161 := ⟨by decide +kernel, rfl⟩
theorem d_LawX_law_1161 : zd_l .aload_n .aload b_LawX_law 1161 1 1162 := Or.inl ⟨1, rfl, by decide +kernel, rfl⟩
theorem d_LawX_law_1162 : zd b_LawX_law 1162 (.invokevirtual 130) 3 1165 := ⟨by decide +kernel, rfl⟩
theorem d_LawX_law_1165 : zd_l .aload_n .aload b_LawX_law 1165 2 1166 := Or.inl ⟨2, rfl, by decide +kernel, rfl⟩
theorem d_LawX_law_1166 : zd b_LawX_law 1166 (.invokevirtual 133) 3 1169 := ⟨by decide +kernel, rfl⟩
theorem d_LawX_law_1169 : zd_b b_LawX_law 1169 (.if_icmp .eq) 1172 1197 := ⟨28, by decide +kernel, by decide, rfl⟩
theorem d_LawX_law_1172 : zd_k b_LawX_law "SameTuesdayLaw" 1172 0 1173 := Or.inl ⟨0, by decide +kernel, by decide, rfl⟩
theorem d_LawX_law_1173 : zd b_LawX_law 1173 .ireturn 1 1174 := ⟨by decide +kernel, rfl⟩
theorem d_LawX_law_1174 : zd_l .aload_n .aload b_LawX_law 1174 1 1175 := Or.inl ⟨1, rfl, by decide +kernel, rfl⟩
theorem d_LawX_law_1175 : zd_l .aload_n .aload b_LawX_law 1175 0 1176 := Or.inl ⟨0, rfl, by decide +kernel, rfl⟩
theorem d_LawX_law_1176 : zd_l .iload_n .iload b_LawX_law 1176 3 1177 := Or.inl ⟨3, rfl, by decide +kernel, rfl⟩
theorem d_LawX_law_1177 : zd_k b_LawX_law "SameTuesdayLaw" 1177 1 1178 := Or.inl ⟨1, by decide +kernel, by decide, rfl⟩
theorem d_LawX_law_1178 : zd b_LawX_law 1178 .iadd 1 1179 := ⟨by decide +kernel, rfl⟩
theorem d_LawX_law_1179 : zd b_LawX_law 1179 .iaload 1 1180 := ⟨by decide +kernel, rfl⟩
theorem d_LawX_law_1180 : zd b_LawX_law 1180 (.invokevirtual 134) 3 1183 := ⟨by decide +kernel, rfl⟩
theorem d_LawX_law_1183 : zd_l .aload_n .aload b_LawX_law 1183 2 1184 := Or.inl ⟨2, rfl, by decide +kernel, rfl⟩
theorem d_LawX_law_1184 : zd_l .aload_n .aload b_LawX_law 1184 0 1185 := Or.inl ⟨0, rfl, by decide +kernel, rfl⟩
theorem d_LawX_law_1185 : zd_l .iload_n .iload b_LawX_law 1185 3 1186 := Or.inl ⟨3, rfl, by decide +kernel, rfl⟩
theorem d_LawX_law_1186 : zd_k b_LawX_law "SameTuesdayLaw" 1186 1 1187 := Or.inl ⟨1, by decide +kernel, by decide, rfl⟩
theorem d_LawX_law_1187 : zd b_LawX_law 1187 .iadd 1 1188 := ⟨by decide +kernel, rfl⟩
theorem d_LawX_law_1188 : zd b_LawX_law 1188 .iaload 1 1189 := ⟨by decide +kernel, rfl⟩
theorem d_LawX_law_1189 : zd b_LawX_law 1189 (.invokevirtual 137) 3 1192 := ⟨by decide +kernel, rfl⟩
theorem d_LawX_law_1192 : zd_b b_LawX_law 1192 (.if_icmp .eq) 1195 1197 := ⟨5, by decide +kernel, by decide, rfl⟩
theorem d_LawX_law_1195 : zd_k b_LawX_law "SameTuesdayLaw" 1195 0 1196 := Or.inl ⟨0, by decide +kernel, by decide, rfl⟩
theorem d_LawX_law_1196 : zd b_LawX_law 1196 .ireturn 1 1197 := ⟨by decide +kernel, rfl⟩
theorem d_LawX_law_1197 : zd_i b_LawX_law 1197 3 7 7 1200 := ⟨by decide +kernel, by decide, rfl⟩
theorem d_LawX_law_1200 : zd_b b_LawX_law 1200 .goto 1203 18 := ⟨(-1182), by decide +kernel, by decide, rfl⟩
theorem d_LawX_law_1203 : zd_k b_LawX_law "SameTuesdayLaw" 1203 1 1204 := Or.inl ⟨1, by decide +kernel, by decide, rfl⟩
theorem d_LawX_law_1204 : zd b_LawX_law 1204 .ireturn 1 1205 := ⟨by decide +kernel, rfl⟩
end
