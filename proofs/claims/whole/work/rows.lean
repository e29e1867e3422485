section
-- ===== PART A: goes FIRST, ahead of the names: the tables' words, and 'selects' of the private methods out of them =====
/-- a private method of a class that the tables say can be made, by its rows of tables_1 -/
def lw_okq (q : MethodName × Nat) : Prop := (q.1.cls ≠ "java/lang/invoke/MethodHandle" ∧ q.1.cls ≠ "java/lang/invoke/VarHandle") ∧ Cond.instantiable q.1.cls q.2 ∈ tables_1 ∧ Cond.privateMethod q.1 ∈ tables_1 ∧ Cond.instanceMethod q.1 ∈ tables_1
theorem lw_p0 : lw_okq (⟨"SeamPull", "found", "(I)I"⟩, 16) := ⟨⟨by decide +kernel, by decide +kernel⟩, List.mem_of_getElem? (i := 20) (by decide +kernel), List.mem_of_getElem? (i := 308) (by decide +kernel), List.mem_of_getElem? (i := 309) (by decide +kernel)⟩
theorem lw_p1 : lw_okq (⟨"SeamPull", "fine", "(I)I"⟩, 16) := ⟨⟨by decide +kernel, by decide +kernel⟩, List.mem_of_getElem? (i := 20) (by decide +kernel), List.mem_of_getElem? (i := 317) (by decide +kernel), List.mem_of_getElem? (i := 318) (by decide +kernel)⟩
theorem lw_p2 : lw_okq (⟨"SeamPull$Reader", "takePanel", "(LSeamPull$Plan;)I"⟩, 2) := ⟨⟨by decide +kernel, by decide +kernel⟩, List.mem_of_getElem? (i := 74) (by decide +kernel), List.mem_of_getElem? (i := 401) (by decide +kernel), List.mem_of_getElem? (i := 402) (by decide +kernel)⟩
theorem lw_p3 : lw_okq (⟨"SeamPull$Tape", "spells", "(Ljava/lang/String;)Z"⟩, 5) := ⟨⟨by decide +kernel, by decide +kernel⟩, List.mem_of_getElem? (i := 50) (by decide +kernel), List.mem_of_getElem? (i := 426) (by decide +kernel), List.mem_of_getElem? (i := 427) (by decide +kernel)⟩
theorem lw_p4 : lw_okq (⟨"SeamPull$Reader", "takeNumber", "(II)I"⟩, 2) := ⟨⟨by decide +kernel, by decide +kernel⟩, List.mem_of_getElem? (i := 74) (by decide +kernel), List.mem_of_getElem? (i := 479) (by decide +kernel), List.mem_of_getElem? (i := 480) (by decide +kernel)⟩
theorem lw_p5 : lw_okq (⟨"SeamPull$Reader", "takeSign", "()I"⟩, 2) := ⟨⟨by decide +kernel, by decide +kernel⟩, List.mem_of_getElem? (i := 74) (by decide +kernel), List.mem_of_getElem? (i := 491) (by decide +kernel), List.mem_of_getElem? (i := 492) (by decide +kernel)⟩
theorem lw_p6 : lw_okq (⟨"SeamPull$Reader", "takeSeam", "(LSeamPull$Plan;)I"⟩, 2) := ⟨⟨by decide +kernel, by decide +kernel⟩, List.mem_of_getElem? (i := 74) (by decide +kernel), List.mem_of_getElem? (i := 499) (by decide +kernel), List.mem_of_getElem? (i := 500) (by decide +kernel)⟩
theorem lw_p7 : lw_okq (⟨"SeamPull$Reader", "takeAct", "(LSeamPull$Plan;I)I"⟩, 2) := ⟨⟨by decide +kernel, by decide +kernel⟩, List.mem_of_getElem? (i := 74) (by decide +kernel), List.mem_of_getElem? (i := 508) (by decide +kernel), List.mem_of_getElem? (i := 509) (by decide +kernel)⟩
theorem lw_p8 : lw_okq (⟨"SeamPull$Reader", "takeBefore", "(LSeamPull$Plan;)I"⟩, 2) := ⟨⟨by decide +kernel, by decide +kernel⟩, List.mem_of_getElem? (i := 74) (by decide +kernel), List.mem_of_getElem? (i := 520) (by decide +kernel), List.mem_of_getElem? (i := 521) (by decide +kernel)⟩
theorem lw_p9 : lw_okq (⟨"SeamPull", "beginPlan", "()V"⟩, 16) := ⟨⟨by decide +kernel, by decide +kernel⟩, List.mem_of_getElem? (i := 20) (by decide +kernel), List.mem_of_getElem? (i := 545) (by decide +kernel), List.mem_of_getElem? (i := 546) (by decide +kernel)⟩
theorem lw_p10 : lw_okq (⟨"SeamPull", "standByOrder", "()I"⟩, 16) := ⟨⟨by decide +kernel, by decide +kernel⟩, List.mem_of_getElem? (i := 20) (by decide +kernel), List.mem_of_getElem? (i := 615) (by decide +kernel), List.mem_of_getElem? (i := 616) (by decide +kernel)⟩
theorem lw_p11 : lw_okq (⟨"SeamPull$Panel", "freeOne", "(I)V"⟩, 10) := ⟨⟨by decide +kernel, by decide +kernel⟩, List.mem_of_getElem? (i := 87) (by decide +kernel), List.mem_of_getElem? (i := 636) (by decide +kernel), List.mem_of_getElem? (i := 637) (by decide +kernel)⟩
theorem lw_p12 : lw_okq (⟨"SeamPull$Panel", "has", "(I)Z"⟩, 10) := ⟨⟨by decide +kernel, by decide +kernel⟩, List.mem_of_getElem? (i := 87) (by decide +kernel), List.mem_of_getElem? (i := 640) (by decide +kernel), List.mem_of_getElem? (i := 641) (by decide +kernel)⟩
theorem lw_p13 : lw_okq (⟨"SeamPull$Panel", "isClamped", "(I)Z"⟩, 10) := ⟨⟨by decide +kernel, by decide +kernel⟩, List.mem_of_getElem? (i := 87) (by decide +kernel), List.mem_of_getElem? (i := 644) (by decide +kernel), List.mem_of_getElem? (i := 645) (by decide +kernel)⟩
theorem lw_p14 : lw_okq (⟨"SeamPull$Panel", "doStep", "(III)V"⟩, 10) := ⟨⟨by decide +kernel, by decide +kernel⟩, List.mem_of_getElem? (i := 87) (by decide +kernel), List.mem_of_getElem? (i := 648) (by decide +kernel), List.mem_of_getElem? (i := 649) (by decide +kernel)⟩
theorem lw_p15 : lw_okq (⟨"SeamPull$Panel", "cool", "(I)V"⟩, 10) := ⟨⟨by decide +kernel, by decide +kernel⟩, List.mem_of_getElem? (i := 87) (by decide +kernel), List.mem_of_getElem? (i := 652) (by decide +kernel), List.mem_of_getElem? (i := 653) (by decide +kernel)⟩
def lw_privs_1 : List (MethodName × Nat) := [(⟨"SeamPull", "found", "(I)I"⟩, 16), (⟨"SeamPull", "fine", "(I)I"⟩, 16), (⟨"SeamPull$Reader", "takePanel", "(LSeamPull$Plan;)I"⟩, 2), (⟨"SeamPull$Tape", "spells", "(Ljava/lang/String;)Z"⟩, 5), (⟨"SeamPull$Reader", "takeNumber", "(II)I"⟩, 2), (⟨"SeamPull$Reader", "takeSign", "()I"⟩, 2), (⟨"SeamPull$Reader", "takeSeam", "(LSeamPull$Plan;)I"⟩, 2), (⟨"SeamPull$Reader", "takeAct", "(LSeamPull$Plan;I)I"⟩, 2), (⟨"SeamPull$Reader", "takeBefore", "(LSeamPull$Plan;)I"⟩, 2), (⟨"SeamPull", "beginPlan", "()V"⟩, 16), (⟨"SeamPull", "standByOrder", "()I"⟩, 16), (⟨"SeamPull$Panel", "freeOne", "(I)V"⟩, 10), (⟨"SeamPull$Panel", "has", "(I)Z"⟩, 10), (⟨"SeamPull$Panel", "isClamped", "(I)Z"⟩, 10), (⟨"SeamPull$Panel", "doStep", "(III)V"⟩, 10), (⟨"SeamPull$Panel", "cool", "(I)V"⟩, 10)]
theorem lw_r1 : ∀ q ∈ lw_privs_1, lw_okq q := List.forall_mem_cons.mpr ⟨lw_p0, List.forall_mem_cons.mpr ⟨lw_p1, List.forall_mem_cons.mpr ⟨lw_p2, List.forall_mem_cons.mpr ⟨lw_p3, List.forall_mem_cons.mpr ⟨lw_p4, List.forall_mem_cons.mpr ⟨lw_p5, List.forall_mem_cons.mpr ⟨lw_p6, List.forall_mem_cons.mpr ⟨lw_p7, List.forall_mem_cons.mpr ⟨lw_p8, List.forall_mem_cons.mpr ⟨lw_p9, List.forall_mem_cons.mpr ⟨lw_p10, List.forall_mem_cons.mpr ⟨lw_p11, List.forall_mem_cons.mpr ⟨lw_p12, List.forall_mem_cons.mpr ⟨lw_p13, List.forall_mem_cons.mpr ⟨lw_p14, List.forall_mem_cons.mpr ⟨lw_p15, fun _ h => absurd h List.not_mem_nil⟩⟩⟩⟩⟩⟩⟩⟩⟩⟩⟩⟩⟩⟩⟩⟩
theorem lw_p16 : lw_okq (⟨"SeamPull$Panel", "shrinkageOf", "(III)I"⟩, 10) := ⟨⟨by decide +kernel, by decide +kernel⟩, List.mem_of_getElem? (i := 87) (by decide +kernel), List.mem_of_getElem? (i := 656) (by decide +kernel), List.mem_of_getElem? (i := 657) (by decide +kernel)⟩
theorem lw_p17 : lw_okq (⟨"SeamPull$Panel", "holds", "(I)Z"⟩, 10) := ⟨⟨by decide +kernel, by decide +kernel⟩, List.mem_of_getElem? (i := 87) (by decide +kernel), List.mem_of_getElem? (i := 660) (by decide +kernel), List.mem_of_getElem? (i := 661) (by decide +kernel)⟩
theorem lw_p18 : lw_okq (⟨"SeamPull$Panel", "effectOf", "(II)I"⟩, 10) := ⟨⟨by decide +kernel, by decide +kernel⟩, List.mem_of_getElem? (i := 87) (by decide +kernel), List.mem_of_getElem? (i := 664) (by decide +kernel), List.mem_of_getElem? (i := 665) (by decide +kernel)⟩
theorem lw_p19 : lw_okq (⟨"SeamPull$Search", "tryFrom", "(LSeamPull$Plan;II)V"⟩, 7) := ⟨⟨by decide +kernel, by decide +kernel⟩, List.mem_of_getElem? (i := 129) (by decide +kernel), List.mem_of_getElem? (i := 731) (by decide +kernel), List.mem_of_getElem? (i := 732) (by decide +kernel)⟩
theorem lw_p20 : lw_okq (⟨"SeamPull$Search", "weigh", "(LSeamPull$Panel;I)V"⟩, 7) := ⟨⟨by decide +kernel, by decide +kernel⟩, List.mem_of_getElem? (i := 129) (by decide +kernel), List.mem_of_getElem? (i := 735) (by decide +kernel), List.mem_of_getElem? (i := 736) (by decide +kernel)⟩
theorem lw_p21 : lw_okq (⟨"SeamPull$Beforehand", "keepWhereFlat", "(LSeamPull$Panel;I)V"⟩, 3) := ⟨⟨by decide +kernel, by decide +kernel⟩, List.mem_of_getElem? (i := 163) (by decide +kernel), List.mem_of_getElem? (i := 772) (by decide +kernel), List.mem_of_getElem? (i := 773) (by decide +kernel)⟩
theorem lw_p22 : lw_okq (⟨"SeamPull", "drawDown", "(III)Z"⟩, 16) := ⟨⟨by decide +kernel, by decide +kernel⟩, List.mem_of_getElem? (i := 20) (by decide +kernel), List.mem_of_getElem? (i := 786) (by decide +kernel), List.mem_of_getElem? (i := 787) (by decide +kernel)⟩
theorem lw_p23 : lw_okq (⟨"SeamPull", "spotAt", "(II)V"⟩, 16) := ⟨⟨by decide +kernel, by decide +kernel⟩, List.mem_of_getElem? (i := 20) (by decide +kernel), List.mem_of_getElem? (i := 790) (by decide +kernel), List.mem_of_getElem? (i := 791) (by decide +kernel)⟩
theorem lw_p24 : lw_okq (⟨"SeamPull", "steelOf", "(II)I"⟩, 16) := ⟨⟨by decide +kernel, by decide +kernel⟩, List.mem_of_getElem? (i := 20) (by decide +kernel), List.mem_of_getElem? (i := 819) (by decide +kernel), List.mem_of_getElem? (i := 820) (by decide +kernel)⟩
theorem lw_p25 : lw_okq (⟨"SeamPull", "isSteel", "(III)Z"⟩, 16) := ⟨⟨by decide +kernel, by decide +kernel⟩, List.mem_of_getElem? (i := 20) (by decide +kernel), List.mem_of_getElem? (i := 823) (by decide +kernel), List.mem_of_getElem? (i := 824) (by decide +kernel)⟩
theorem lw_p26 : lw_okq (⟨"SeamPull", "wireBend", "(III)I"⟩, 16) := ⟨⟨by decide +kernel, by decide +kernel⟩, List.mem_of_getElem? (i := 20) (by decide +kernel), List.mem_of_getElem? (i := 827) (by decide +kernel), List.mem_of_getElem? (i := 828) (by decide +kernel)⟩
theorem lw_p27 : lw_okq (⟨"SeamPull$Asks", "asked", "(LSeamPull$Plan;III)I"⟩, 2) := ⟨⟨by decide +kernel, by decide +kernel⟩, List.mem_of_getElem? (i := 180) (by decide +kernel), List.mem_of_getElem? (i := 860) (by decide +kernel), List.mem_of_getElem? (i := 861) (by decide +kernel)⟩
theorem lw_p28 : lw_okq (⟨"SeamPull$Asks", "given", "(LSeamPull$Plan;III)I"⟩, 2) := ⟨⟨by decide +kernel, by decide +kernel⟩, List.mem_of_getElem? (i := 180) (by decide +kernel), List.mem_of_getElem? (i := 872) (by decide +kernel), List.mem_of_getElem? (i := 873) (by decide +kernel)⟩
theorem lw_p29 : lw_okq (⟨"SeamPull$Asks", "leave", "(I)V"⟩, 2) := ⟨⟨by decide +kernel, by decide +kernel⟩, List.mem_of_getElem? (i := 180) (by decide +kernel), List.mem_of_getElem? (i := 876) (by decide +kernel), List.mem_of_getElem? (i := 877) (by decide +kernel)⟩
theorem lw_p30 : lw_okq (⟨"SeamPullModel", "finding", "(I)I"⟩, 43) := ⟨⟨by decide +kernel, by decide +kernel⟩, List.mem_of_getElem? (i := 901) (by decide +kernel), List.mem_of_getElem? (i := 1051) (by decide +kernel), List.mem_of_getElem? (i := 1052) (by decide +kernel)⟩
theorem lw_p31 : lw_okq (⟨"SeamPullModel", "next", "()V"⟩, 43) := ⟨⟨by decide +kernel, by decide +kernel⟩, List.mem_of_getElem? (i := 901) (by decide +kernel), List.mem_of_getElem? (i := 1079) (by decide +kernel), List.mem_of_getElem? (i := 1080) (by decide +kernel)⟩
def lw_privs_2 : List (MethodName × Nat) := [(⟨"SeamPull$Panel", "shrinkageOf", "(III)I"⟩, 10), (⟨"SeamPull$Panel", "holds", "(I)Z"⟩, 10), (⟨"SeamPull$Panel", "effectOf", "(II)I"⟩, 10), (⟨"SeamPull$Search", "tryFrom", "(LSeamPull$Plan;II)V"⟩, 7), (⟨"SeamPull$Search", "weigh", "(LSeamPull$Panel;I)V"⟩, 7), (⟨"SeamPull$Beforehand", "keepWhereFlat", "(LSeamPull$Panel;I)V"⟩, 3), (⟨"SeamPull", "drawDown", "(III)Z"⟩, 16), (⟨"SeamPull", "spotAt", "(II)V"⟩, 16), (⟨"SeamPull", "steelOf", "(II)I"⟩, 16), (⟨"SeamPull", "isSteel", "(III)Z"⟩, 16), (⟨"SeamPull", "wireBend", "(III)I"⟩, 16), (⟨"SeamPull$Asks", "asked", "(LSeamPull$Plan;III)I"⟩, 2), (⟨"SeamPull$Asks", "given", "(LSeamPull$Plan;III)I"⟩, 2), (⟨"SeamPull$Asks", "leave", "(I)V"⟩, 2), (⟨"SeamPullModel", "finding", "(I)I"⟩, 43), (⟨"SeamPullModel", "next", "()V"⟩, 43)]
theorem lw_r2 : ∀ q ∈ lw_privs_2, lw_okq q := List.forall_mem_cons.mpr ⟨lw_p16, List.forall_mem_cons.mpr ⟨lw_p17, List.forall_mem_cons.mpr ⟨lw_p18, List.forall_mem_cons.mpr ⟨lw_p19, List.forall_mem_cons.mpr ⟨lw_p20, List.forall_mem_cons.mpr ⟨lw_p21, List.forall_mem_cons.mpr ⟨lw_p22, List.forall_mem_cons.mpr ⟨lw_p23, List.forall_mem_cons.mpr ⟨lw_p24, List.forall_mem_cons.mpr ⟨lw_p25, List.forall_mem_cons.mpr ⟨lw_p26, List.forall_mem_cons.mpr ⟨lw_p27, List.forall_mem_cons.mpr ⟨lw_p28, List.forall_mem_cons.mpr ⟨lw_p29, List.forall_mem_cons.mpr ⟨lw_p30, List.forall_mem_cons.mpr ⟨lw_p31, fun _ h => absurd h List.not_mem_nil⟩⟩⟩⟩⟩⟩⟩⟩⟩⟩⟩⟩⟩⟩⟩⟩
theorem lw_p32 : lw_okq (⟨"SeamPullModel", "byteAt", "(I)I"⟩, 43) := ⟨⟨by decide +kernel, by decide +kernel⟩, List.mem_of_getElem? (i := 901) (by decide +kernel), List.mem_of_getElem? (i := 1083) (by decide +kernel), List.mem_of_getElem? (i := 1084) (by decide +kernel)⟩
theorem lw_p33 : lw_okq (⟨"SeamPullModel", "word", "()J"⟩, 43) := ⟨⟨by decide +kernel, by decide +kernel⟩, List.mem_of_getElem? (i := 901) (by decide +kernel), List.mem_of_getElem? (i := 1094) (by decide +kernel), List.mem_of_getElem? (i := 1095) (by decide +kernel)⟩
theorem lw_p34 : lw_okq (⟨"SeamPullModel", "must", "(Z)V"⟩, 43) := ⟨⟨by decide +kernel, by decide +kernel⟩, List.mem_of_getElem? (i := 901) (by decide +kernel), List.mem_of_getElem? (i := 1099) (by decide +kernel), List.mem_of_getElem? (i := 1100) (by decide +kernel)⟩
theorem lw_p35 : lw_okq (⟨"SeamPullModel", "bad", "(I)V"⟩, 43) := ⟨⟨by decide +kernel, by decide +kernel⟩, List.mem_of_getElem? (i := 901) (by decide +kernel), List.mem_of_getElem? (i := 1103) (by decide +kernel), List.mem_of_getElem? (i := 1104) (by decide +kernel)⟩
theorem lw_p36 : lw_okq (⟨"SeamPullModel", "numberIn", "(III)I"⟩, 43) := ⟨⟨by decide +kernel, by decide +kernel⟩, List.mem_of_getElem? (i := 901) (by decide +kernel), List.mem_of_getElem? (i := 1107) (by decide +kernel), List.mem_of_getElem? (i := 1108) (by decide +kernel)⟩
theorem lw_p37 : lw_okq (⟨"SeamPullModel", "mustEnd", "()V"⟩, 43) := ⟨⟨by decide +kernel, by decide +kernel⟩, List.mem_of_getElem? (i := 901) (by decide +kernel), List.mem_of_getElem? (i := 1111) (by decide +kernel), List.mem_of_getElem? (i := 1112) (by decide +kernel)⟩
theorem lw_p38 : lw_okq (⟨"SeamPullModel", "readSeam", "()V"⟩, 43) := ⟨⟨by decide +kernel, by decide +kernel⟩, List.mem_of_getElem? (i := 901) (by decide +kernel), List.mem_of_getElem? (i := 1116) (by decide +kernel), List.mem_of_getElem? (i := 1117) (by decide +kernel)⟩
theorem lw_p39 : lw_okq (⟨"SeamPullModel", "kindOfWord", "()I"⟩, 43) := ⟨⟨by decide +kernel, by decide +kernel⟩, List.mem_of_getElem? (i := 901) (by decide +kernel), List.mem_of_getElem? (i := 1120) (by decide +kernel), List.mem_of_getElem? (i := 1121) (by decide +kernel)⟩
theorem lw_p40 : lw_okq (⟨"SeamPullModel", "readAct", "(I)V"⟩, 43) := ⟨⟨by decide +kernel, by decide +kernel⟩, List.mem_of_getElem? (i := 901) (by decide +kernel), List.mem_of_getElem? (i := 1134) (by decide +kernel), List.mem_of_getElem? (i := 1135) (by decide +kernel)⟩
theorem lw_p41 : lw_okq (⟨"SeamPullModel", "readBefore", "()V"⟩, 43) := ⟨⟨by decide +kernel, by decide +kernel⟩, List.mem_of_getElem? (i := 901) (by decide +kernel), List.mem_of_getElem? (i := 1139) (by decide +kernel), List.mem_of_getElem? (i := 1140) (by decide +kernel)⟩
theorem lw_p42 : lw_okq (⟨"SeamPullModel", "isAct", "(I)Z"⟩, 43) := ⟨⟨by decide +kernel, by decide +kernel⟩, List.mem_of_getElem? (i := 901) (by decide +kernel), List.mem_of_getElem? (i := 1152) (by decide +kernel), List.mem_of_getElem? (i := 1153) (by decide +kernel)⟩
theorem lw_p43 : lw_okq (⟨"SeamPullModel", "isCell", "(I)Z"⟩, 43) := ⟨⟨by decide +kernel, by decide +kernel⟩, List.mem_of_getElem? (i := 901) (by decide +kernel), List.mem_of_getElem? (i := 1161) (by decide +kernel), List.mem_of_getElem? (i := 1162) (by decide +kernel)⟩
theorem lw_p44 : lw_okq (⟨"SeamPullModel", "layOpened", "()V"⟩, 43) := ⟨⟨by decide +kernel, by decide +kernel⟩, List.mem_of_getElem? (i := 901) (by decide +kernel), List.mem_of_getElem? (i := 1172) (by decide +kernel), List.mem_of_getElem? (i := 1173) (by decide +kernel)⟩
theorem lw_p45 : lw_okq (⟨"SeamPullModel", "go", "(I)V"⟩, 43) := ⟨⟨by decide +kernel, by decide +kernel⟩, List.mem_of_getElem? (i := 901) (by decide +kernel), List.mem_of_getElem? (i := 1176) (by decide +kernel), List.mem_of_getElem? (i := 1177) (by decide +kernel)⟩
theorem lw_p46 : lw_okq (⟨"SeamPullModel", "doAct", "(I)V"⟩, 43) := ⟨⟨by decide +kernel, by decide +kernel⟩, List.mem_of_getElem? (i := 901) (by decide +kernel), List.mem_of_getElem? (i := 1182) (by decide +kernel), List.mem_of_getElem? (i := 1183) (by decide +kernel)⟩
theorem lw_p47 : lw_okq (⟨"SeamPullModel", "minute", "()V"⟩, 43) := ⟨⟨by decide +kernel, by decide +kernel⟩, List.mem_of_getElem? (i := 901) (by decide +kernel), List.mem_of_getElem? (i := 1186) (by decide +kernel), List.mem_of_getElem? (i := 1187) (by decide +kernel)⟩
def lw_privs_3 : List (MethodName × Nat) := [(⟨"SeamPullModel", "byteAt", "(I)I"⟩, 43), (⟨"SeamPullModel", "word", "()J"⟩, 43), (⟨"SeamPullModel", "must", "(Z)V"⟩, 43), (⟨"SeamPullModel", "bad", "(I)V"⟩, 43), (⟨"SeamPullModel", "numberIn", "(III)I"⟩, 43), (⟨"SeamPullModel", "mustEnd", "()V"⟩, 43), (⟨"SeamPullModel", "readSeam", "()V"⟩, 43), (⟨"SeamPullModel", "kindOfWord", "()I"⟩, 43), (⟨"SeamPullModel", "readAct", "(I)V"⟩, 43), (⟨"SeamPullModel", "readBefore", "()V"⟩, 43), (⟨"SeamPullModel", "isAct", "(I)Z"⟩, 43), (⟨"SeamPullModel", "isCell", "(I)Z"⟩, 43), (⟨"SeamPullModel", "layOpened", "()V"⟩, 43), (⟨"SeamPullModel", "go", "(I)V"⟩, 43), (⟨"SeamPullModel", "doAct", "(I)V"⟩, 43), (⟨"SeamPullModel", "minute", "()V"⟩, 43)]
theorem lw_r3 : ∀ q ∈ lw_privs_3, lw_okq q := List.forall_mem_cons.mpr ⟨lw_p32, List.forall_mem_cons.mpr ⟨lw_p33, List.forall_mem_cons.mpr ⟨lw_p34, List.forall_mem_cons.mpr ⟨lw_p35, List.forall_mem_cons.mpr ⟨lw_p36, List.forall_mem_cons.mpr ⟨lw_p37, List.forall_mem_cons.mpr ⟨lw_p38, List.forall_mem_cons.mpr ⟨lw_p39, List.forall_mem_cons.mpr ⟨lw_p40, List.forall_mem_cons.mpr ⟨lw_p41, List.forall_mem_cons.mpr ⟨lw_p42, List.forall_mem_cons.mpr ⟨lw_p43, List.forall_mem_cons.mpr ⟨lw_p44, List.forall_mem_cons.mpr ⟨lw_p45, List.forall_mem_cons.mpr ⟨lw_p46, List.forall_mem_cons.mpr ⟨lw_p47, fun _ h => absurd h List.not_mem_nil⟩⟩⟩⟩⟩⟩⟩⟩⟩⟩⟩⟩⟩⟩⟩⟩
theorem lw_p48 : lw_okq (⟨"SeamPullModel", "free", "(I)V"⟩, 43) := ⟨⟨by decide +kernel, by decide +kernel⟩, List.mem_of_getElem? (i := 901) (by decide +kernel), List.mem_of_getElem? (i := 1190) (by decide +kernel), List.mem_of_getElem? (i := 1191) (by decide +kernel)⟩
theorem lw_p49 : lw_okq (⟨"SeamPullModel", "step", "(III)V"⟩, 43) := ⟨⟨by decide +kernel, by decide +kernel⟩, List.mem_of_getElem? (i := 901) (by decide +kernel), List.mem_of_getElem? (i := 1194) (by decide +kernel), List.mem_of_getElem? (i := 1195) (by decide +kernel)⟩
theorem lw_p50 : lw_okq (⟨"SeamPullModel", "shrinks", "(III)I"⟩, 43) := ⟨⟨by decide +kernel, by decide +kernel⟩, List.mem_of_getElem? (i := 901) (by decide +kernel), List.mem_of_getElem? (i := 1198) (by decide +kernel), List.mem_of_getElem? (i := 1199) (by decide +kernel)⟩
theorem lw_p51 : lw_okq (⟨"SeamPullModel", "holds", "(I)Z"⟩, 43) := ⟨⟨by decide +kernel, by decide +kernel⟩, List.mem_of_getElem? (i := 901) (by decide +kernel), List.mem_of_getElem? (i := 1202) (by decide +kernel), List.mem_of_getElem? (i := 1203) (by decide +kernel)⟩
theorem lw_p52 : lw_okq (⟨"SeamPullModel", "stand", "()V"⟩, 43) := ⟨⟨by decide +kernel, by decide +kernel⟩, List.mem_of_getElem? (i := 901) (by decide +kernel), List.mem_of_getElem? (i := 1206) (by decide +kernel), List.mem_of_getElem? (i := 1207) (by decide +kernel)⟩
theorem lw_p53 : lw_okq (⟨"SeamPullModel", "offBy", "()I"⟩, 43) := ⟨⟨by decide +kernel, by decide +kernel⟩, List.mem_of_getElem? (i := 901) (by decide +kernel), List.mem_of_getElem? (i := 1210) (by decide +kernel), List.mem_of_getElem? (i := 1211) (by decide +kernel)⟩
theorem lw_p54 : lw_okq (⟨"SeamPullModel", "heightBy", "([II)I"⟩, 43) := ⟨⟨by decide +kernel, by decide +kernel⟩, List.mem_of_getElem? (i := 901) (by decide +kernel), List.mem_of_getElem? (i := 1214) (by decide +kernel), List.mem_of_getElem? (i := 1215) (by decide +kernel)⟩
theorem lw_p55 : lw_okq (⟨"SeamPullModel", "layNumbers", "()V"⟩, 43) := ⟨⟨by decide +kernel, by decide +kernel⟩, List.mem_of_getElem? (i := 901) (by decide +kernel), List.mem_of_getElem? (i := 1222) (by decide +kernel), List.mem_of_getElem? (i := 1223) (by decide +kernel)⟩
theorem lw_p56 : lw_okq (⟨"SeamPullModel", "layStanding", "()V"⟩, 43) := ⟨⟨by decide +kernel, by decide +kernel⟩, List.mem_of_getElem? (i := 901) (by decide +kernel), List.mem_of_getElem? (i := 1230) (by decide +kernel), List.mem_of_getElem? (i := 1231) (by decide +kernel)⟩
theorem lw_p57 : lw_okq (⟨"SeamPullModel", "fits", "()Z"⟩, 43) := ⟨⟨by decide +kernel, by decide +kernel⟩, List.mem_of_getElem? (i := 901) (by decide +kernel), List.mem_of_getElem? (i := 1250) (by decide +kernel), List.mem_of_getElem? (i := 1251) (by decide +kernel)⟩
theorem lw_p58 : lw_okq (⟨"SeamPullModel", "nextOrder", "()Z"⟩, 43) := ⟨⟨by decide +kernel, by decide +kernel⟩, List.mem_of_getElem? (i := 901) (by decide +kernel), List.mem_of_getElem? (i := 1254) (by decide +kernel), List.mem_of_getElem? (i := 1255) (by decide +kernel)⟩
theorem lw_p59 : lw_okq (⟨"SeamPullModel", "setBy", "(I)I"⟩, 43) := ⟨⟨by decide +kernel, by decide +kernel⟩, List.mem_of_getElem? (i := 901) (by decide +kernel), List.mem_of_getElem? (i := 1266) (by decide +kernel), List.mem_of_getElem? (i := 1267) (by decide +kernel)⟩
theorem lw_p60 : lw_okq (⟨"SeamPullModel", "flame", "(II)V"⟩, 43) := ⟨⟨by decide +kernel, by decide +kernel⟩, List.mem_of_getElem? (i := 901) (by decide +kernel), List.mem_of_getElem? (i := 1275) (by decide +kernel), List.mem_of_getElem? (i := 1276) (by decide +kernel)⟩
theorem lw_p61 : lw_okq (⟨"SeamPullModel", "crackAt", "(I)I"⟩, 43) := ⟨⟨by decide +kernel, by decide +kernel⟩, List.mem_of_getElem? (i := 901) (by decide +kernel), List.mem_of_getElem? (i := 1284) (by decide +kernel), List.mem_of_getElem? (i := 1285) (by decide +kernel)⟩
theorem lw_p62 : lw_okq (⟨"SeamPullModel", "bendBy", "(II)I"⟩, 43) := ⟨⟨by decide +kernel, by decide +kernel⟩, List.mem_of_getElem? (i := 901) (by decide +kernel), List.mem_of_getElem? (i := 1299) (by decide +kernel), List.mem_of_getElem? (i := 1300) (by decide +kernel)⟩
theorem lw_p63 : lw_okq (⟨"SeamPullModel", "isStep", "(I)Z"⟩, 43) := ⟨⟨by decide +kernel, by decide +kernel⟩, List.mem_of_getElem? (i := 901) (by decide +kernel), List.mem_of_getElem? (i := 1307) (by decide +kernel), List.mem_of_getElem? (i := 1308) (by decide +kernel)⟩
def lw_privs_4 : List (MethodName × Nat) := [(⟨"SeamPullModel", "free", "(I)V"⟩, 43), (⟨"SeamPullModel", "step", "(III)V"⟩, 43), (⟨"SeamPullModel", "shrinks", "(III)I"⟩, 43), (⟨"SeamPullModel", "holds", "(I)Z"⟩, 43), (⟨"SeamPullModel", "stand", "()V"⟩, 43), (⟨"SeamPullModel", "offBy", "()I"⟩, 43), (⟨"SeamPullModel", "heightBy", "([II)I"⟩, 43), (⟨"SeamPullModel", "layNumbers", "()V"⟩, 43), (⟨"SeamPullModel", "layStanding", "()V"⟩, 43), (⟨"SeamPullModel", "fits", "()Z"⟩, 43), (⟨"SeamPullModel", "nextOrder", "()Z"⟩, 43), (⟨"SeamPullModel", "setBy", "(I)I"⟩, 43), (⟨"SeamPullModel", "flame", "(II)V"⟩, 43), (⟨"SeamPullModel", "crackAt", "(I)I"⟩, 43), (⟨"SeamPullModel", "bendBy", "(II)I"⟩, 43), (⟨"SeamPullModel", "isStep", "(I)Z"⟩, 43)]
theorem lw_r4 : ∀ q ∈ lw_privs_4, lw_okq q := List.forall_mem_cons.mpr ⟨lw_p48, List.forall_mem_cons.mpr ⟨lw_p49, List.forall_mem_cons.mpr ⟨lw_p50, List.forall_mem_cons.mpr ⟨lw_p51, List.forall_mem_cons.mpr ⟨lw_p52, List.forall_mem_cons.mpr ⟨lw_p53, List.forall_mem_cons.mpr ⟨lw_p54, List.forall_mem_cons.mpr ⟨lw_p55, List.forall_mem_cons.mpr ⟨lw_p56, List.forall_mem_cons.mpr ⟨lw_p57, List.forall_mem_cons.mpr ⟨lw_p58, List.forall_mem_cons.mpr ⟨lw_p59, List.forall_mem_cons.mpr ⟨lw_p60, List.forall_mem_cons.mpr ⟨lw_p61, List.forall_mem_cons.mpr ⟨lw_p62, List.forall_mem_cons.mpr ⟨lw_p63, fun _ h => absurd h List.not_mem_nil⟩⟩⟩⟩⟩⟩⟩⟩⟩⟩⟩⟩⟩⟩⟩⟩
theorem lw_p64 : lw_okq (⟨"SeamPullModel", "sizeOf", "(II)I"⟩, 43) := ⟨⟨by decide +kernel, by decide +kernel⟩, List.mem_of_getElem? (i := 901) (by decide +kernel), List.mem_of_getElem? (i := 1323) (by decide +kernel), List.mem_of_getElem? (i := 1324) (by decide +kernel)⟩
theorem lw_p65 : lw_okq (⟨"SeamPullModel", "flameSize", "(I)I"⟩, 43) := ⟨⟨by decide +kernel, by decide +kernel⟩, List.mem_of_getElem? (i := 901) (by decide +kernel), List.mem_of_getElem? (i := 1327) (by decide +kernel), List.mem_of_getElem? (i := 1328) (by decide +kernel)⟩
theorem lw_p66 : lw_okq (⟨"SeamPullModel", "began", "(I)V"⟩, 43) := ⟨⟨by decide +kernel, by decide +kernel⟩, List.mem_of_getElem? (i := 901) (by decide +kernel), List.mem_of_getElem? (i := 1331) (by decide +kernel), List.mem_of_getElem? (i := 1332) (by decide +kernel)⟩
theorem lw_p67 : lw_okq (⟨"SeamPullModel", "markOf", "(II)I"⟩, 43) := ⟨⟨by decide +kernel, by decide +kernel⟩, List.mem_of_getElem? (i := 901) (by decide +kernel), List.mem_of_getElem? (i := 1335) (by decide +kernel), List.mem_of_getElem? (i := 1336) (by decide +kernel)⟩
def lw_privs_5 : List (MethodName × Nat) := [(⟨"SeamPullModel", "sizeOf", "(II)I"⟩, 43), (⟨"SeamPullModel", "flameSize", "(I)I"⟩, 43), (⟨"SeamPullModel", "began", "(I)V"⟩, 43), (⟨"SeamPullModel", "markOf", "(II)I"⟩, 43)]
theorem lw_r5 : ∀ q ∈ lw_privs_5, lw_okq q := List.forall_mem_cons.mpr ⟨lw_p64, List.forall_mem_cons.mpr ⟨lw_p65, List.forall_mem_cons.mpr ⟨lw_p66, List.forall_mem_cons.mpr ⟨lw_p67, fun _ h => absurd h List.not_mem_nil⟩⟩⟩⟩
def lw_privs : List (MethodName × Nat) := lw_privs_1 ++ (lw_privs_2 ++ (lw_privs_3 ++ (lw_privs_4 ++ (lw_privs_5))))
def lw_tbl : List Cond := k2_sels lw_privs ++ tables_1
theorem lw_privs_ok : ∀ q ∈ lw_privs, lw_okq q := by
  show ∀ q ∈ lw_privs_1 ++ (lw_privs_2 ++ (lw_privs_3 ++ (lw_privs_4 ++ (lw_privs_5)))), lw_okq q
  exact List.forall_mem_append.mpr ⟨lw_r1, List.forall_mem_append.mpr ⟨lw_r2, List.forall_mem_append.mpr ⟨lw_r3, List.forall_mem_append.mpr ⟨lw_r4, lw_r5⟩⟩⟩⟩
-- ===== end of PART A; then your names; then what follows =====
end
section
/-! ===== BEGIN printed: names, fields, word lists, decode rows ===== -/
def RX0 : String := "SeamPull$Asks"
def TX0 : u_T := fun k => match k with
  | 0 => ("SeamPull$Asks", "begun", "[I", true)
  | _ => ("SeamPull$Asks", "many", "I", false)
def tyX0 : Nat → FieldType := fun k => match k with
  | 0 => .array .int
  | _ => .int
abbrev wsX00 : List Cond := u_ws RX0 TX0 2
theorem nmX0 : ∀ a, a < 2 → ∀ b, b < 2 → a ≠ b → (TX0 a).2.1 ≠ (TX0 b).2.1 := by decide +kernel
theorem tyX0_ok : ∀ k, k < 2 → parseFieldDescriptor (TX0 k).2.2.1 = some (tyX0 k) := by decide +kernel
abbrev cX0_init : ByteArray := prog_2_method_1_code
def yX0_init : MethodName := ⟨RX0, "<init>", "()V"⟩
abbrev cX0_hasKind : ByteArray := prog_2_method_2_code
def yX0_hasKind : MethodName := ⟨RX0, "hasKind", "(I)Z"⟩
abbrev cX0_isOfKind : ByteArray := prog_2_method_3_code
def yX0_isOfKind : MethodName := ⟨RX0, "isOfKind", "(II)Z"⟩
abbrev cX0_bodyFor : ByteArray := prog_2_method_4_code
def yX0_bodyFor : MethodName := ⟨RX0, "bodyFor", "(II)I"⟩
abbrev cX0_answerOf : ByteArray := prog_2_method_5_code
def yX0_answerOf : MethodName := ⟨RX0, "answerOf", "(LSeamPull$Plan;II)I"⟩
abbrev cX0_asked : ByteArray := prog_2_method_6_code
def yX0_asked : MethodName := ⟨RX0, "asked", "(LSeamPull$Plan;III)I"⟩
abbrev cX0_given : ByteArray := prog_2_method_7_code
def yX0_given : MethodName := ⟨RX0, "given", "(LSeamPull$Plan;III)I"⟩
abbrev cX0_leave : ByteArray := prog_2_method_8_code
def yX0_leave : MethodName := ⟨RX0, "leave", "(I)V"⟩
abbrev cX0_traced : ByteArray := prog_2_method_9_code
def yX0_traced : MethodName := ⟨RX0, "traced", "(I)I"⟩
def RX1 : String := "SeamPull$Beforehand"
def TX1 : u_T := fun k => match k with
  | 0 => ("SeamPull$Beforehand", "bends", "[I", true)
  | 1 => ("SeamPull$Beforehand", "alike", "[I", true)
  | _ => ("SeamPull$Beforehand", "known", "Z", false)
def tyX1 : Nat → FieldType := fun k => match k with
  | 0 => .array .int
  | 1 => .array .int
  | _ => .boolean
abbrev wsX10 : List Cond := u_ws RX1 TX1 3
theorem nmX1 : ∀ a, a < 3 → ∀ b, b < 3 → a ≠ b → (TX1 a).2.1 ≠ (TX1 b).2.1 := by decide +kernel
theorem tyX1_ok : ∀ k, k < 3 → parseFieldDescriptor (TX1 k).2.2.1 = some (tyX1 k) := by decide +kernel
abbrev cX1_init : ByteArray := prog_3_method_1_code
def yX1_init : MethodName := ⟨RX1, "<init>", "()V"⟩
abbrev cX1_forget : ByteArray := prog_3_method_2_code
def yX1_forget : MethodName := ⟨RX1, "forget", "()V"⟩
abbrev cX1_look : ByteArray := prog_3_method_3_code
def yX1_look : MethodName := ⟨RX1, "look", "(LSeamPull$Plan;LSeamPull$Panel;)V"⟩
abbrev cX1_keepWhereFlat : ByteArray := prog_3_method_4_code
def yX1_keepWhereFlat : MethodName := ⟨RX1, "keepWhereFlat", "(LSeamPull$Panel;I)V"⟩
def RX2 : String := "SeamPull$Panel"
def TX2 : u_T := fun k => match k with
  | 0 => ("SeamPull$Panel", "heat", "[I", true)
  | 1 => ("SeamPull$Panel", "heatTime", "[I", true)
  | 2 => ("SeamPull$Panel", "hold", "[I", true)
  | 3 => ("SeamPull$Panel", "bend", "[I", true)
  | 4 => ("SeamPull$Panel", "spring", "[I", true)
  | 5 => ("SeamPull$Panel", "shrunk", "[I", true)
  | 6 => ("SeamPull$Panel", "clampBits", "I", false)
  | 7 => ("SeamPull$Panel", "cells", "I", false)
  | 8 => ("SeamPull$Panel", "minutes", "I", false)
  | _ => ("SeamPull$Panel", "allShrunk", "I", false)
def tyX2 : Nat → FieldType := fun k => match k with
  | 0 => .array .int
  | 1 => .array .int
  | 2 => .array .int
  | 3 => .array .int
  | 4 => .array .int
  | 5 => .array .int
  | 6 => .int
  | 7 => .int
  | 8 => .int
  | _ => .int
abbrev wsX20 : List Cond := u_ws RX2 TX2 10
theorem nmX2 : ∀ a, a < 10 → ∀ b, b < 10 → a ≠ b → (TX2 a).2.1 ≠ (TX2 b).2.1 := by decide +kernel
theorem tyX2_ok : ∀ k, k < 10 → parseFieldDescriptor (TX2 k).2.2.1 = some (tyX2 k) := by decide +kernel
abbrev cX2_init : ByteArray := prog_4_method_1_code
def yX2_init : MethodName := ⟨RX2, "<init>", "()V"⟩
abbrev cX2_begin : ByteArray := prog_4_method_2_code
def yX2_begin : MethodName := ⟨RX2, "begin", "(I[I)V"⟩
abbrev cX2_becomeAs : ByteArray := prog_4_method_3_code
def yX2_becomeAs : MethodName := ⟨RX2, "becomeAs", "(LSeamPull$Panel;)V"⟩
abbrev cX2_go : ByteArray := prog_4_method_4_code
def yX2_go : MethodName := ⟨RX2, "go", "(LSeamPull$Plan;[I[II)V"⟩
abbrev cX2_doSeam : ByteArray := prog_4_method_5_code
def yX2_doSeam : MethodName := ⟨RX2, "doSeam", "(LSeamPull$Plan;I)V"⟩
abbrev cX2_doStep : ByteArray := prog_4_method_6_code
def yX2_doStep : MethodName := ⟨RX2, "doStep", "(III)V"⟩
abbrev cX2_effectOf : ByteArray := prog_4_method_7_code
def yX2_effectOf : MethodName := ⟨RX2, "effectOf", "(II)I"⟩
abbrev cX2_shrinkageOf : ByteArray := prog_4_method_8_code
def yX2_shrinkageOf : MethodName := ⟨RX2, "shrinkageOf", "(III)I"⟩
abbrev cX2_heatOfStep : ByteArray := prog_4_method_9_code
def yX2_heatOfStep : MethodName := ⟨RX2, "heatOfStep", "(II)I"⟩
abbrev cX2_holdOfStep : ByteArray := prog_4_method_10_code
def yX2_holdOfStep : MethodName := ⟨RX2, "holdOfStep", "(I)I"⟩
abbrev cX2_freeOne : ByteArray := prog_4_method_11_code
def yX2_freeOne : MethodName := ⟨RX2, "freeOne", "(I)V"⟩
abbrev cX2_freeAll : ByteArray := prog_4_method_12_code
def yX2_freeAll : MethodName := ⟨RX2, "freeAll", "()V"⟩
abbrev cX2_has : ByteArray := prog_4_method_13_code
def yX2_has : MethodName := ⟨RX2, "has", "(I)Z"⟩
abbrev cX2_holds : ByteArray := prog_4_method_14_code
def yX2_holds : MethodName := ⟨RX2, "holds", "(I)Z"⟩
abbrev cX2_isClamped : ByteArray := prog_4_method_15_code
def yX2_isClamped : MethodName := ⟨RX2, "isClamped", "(I)Z"⟩
abbrev cX2_cool : ByteArray := prog_4_method_16_code
def yX2_cool : MethodName := ⟨RX2, "cool", "(I)V"⟩
abbrev cX2_heatOf : ByteArray := prog_4_method_17_code
def yX2_heatOf : MethodName := ⟨RX2, "heatOf", "(I)I"⟩
abbrev cX2_pullOf : ByteArray := prog_4_method_18_code
def yX2_pullOf : MethodName := ⟨RX2, "pullOf", "(I)I"⟩
abbrev cX2_firstAbove : ByteArray := prog_4_method_19_code
def yX2_firstAbove : MethodName := ⟨RX2, "firstAbove", "(I)I"⟩
abbrev cX2_heightAt : ByteArray := prog_4_method_20_code
def yX2_heightAt : MethodName := ⟨RX2, "heightAt", "(I)I"⟩
abbrev cX2_off : ByteArray := prog_4_method_21_code
def yX2_off : MethodName := ⟨RX2, "off", "()I"⟩
def RX3 : String := "SeamPull$Plan"
def TX3 : u_T := fun k => match k with
  | 0 => ("SeamPull$Plan", "cells", "I", false)
  | 1 => ("SeamPull$Plan", "seams", "I", false)
  | 2 => ("SeamPull$Plan", "acts", "I", false)
  | 3 => ("SeamPull$Plan", "befores", "I", false)
  | 4 => ("SeamPull$Plan", "actKind", "[I", true)
  | 5 => ("SeamPull$Plan", "actPlace", "[I", true)
  | 6 => ("SeamPull$Plan", "actStrength", "[I", true)
  | 7 => ("SeamPull$Plan", "actSeam", "[I", true)
  | 8 => ("SeamPull$Plan", "seamEnd", "[I", true)
  | _ => ("SeamPull$Plan", "needs", "[I", true)
def tyX3 : Nat → FieldType := fun k => match k with
  | 0 => .int
  | 1 => .int
  | 2 => .int
  | 3 => .int
  | 4 => .array .int
  | 5 => .array .int
  | 6 => .array .int
  | 7 => .array .int
  | 8 => .array .int
  | _ => .array .int
abbrev wsX30 : List Cond := u_ws RX3 TX3 10
theorem nmX3 : ∀ a, a < 10 → ∀ b, b < 10 → a ≠ b → (TX3 a).2.1 ≠ (TX3 b).2.1 := by decide +kernel
theorem tyX3_ok : ∀ k, k < 10 → parseFieldDescriptor (TX3 k).2.2.1 = some (tyX3 k) := by decide +kernel
abbrev cX3_init : ByteArray := prog_5_method_1_code
def yX3_init : MethodName := ⟨RX3, "<init>", "()V"⟩
abbrev cX3_clear : ByteArray := prog_5_method_2_code
def yX3_clear : MethodName := ⟨RX3, "clear", "()V"⟩
abbrev cX3_isNone : ByteArray := prog_5_method_3_code
def yX3_isNone : MethodName := ⟨RX3, "isNone", "()Z"⟩
abbrev cX3_hasCell : ByteArray := prog_5_method_4_code
def yX3_hasCell : MethodName := ⟨RX3, "hasCell", "(I)Z"⟩
abbrev cX3_hasSeam : ByteArray := prog_5_method_5_code
def yX3_hasSeam : MethodName := ⟨RX3, "hasSeam", "(I)Z"⟩
abbrev cX3_hasAct : ByteArray := prog_5_method_6_code
def yX3_hasAct : MethodName := ⟨RX3, "hasAct", "(I)Z"⟩
abbrev cX3_isStep : ByteArray := prog_5_method_7_code
def yX3_isStep : MethodName := ⟨RX3, "isStep", "(I)Z"⟩
abbrev cX3_stepKind : ByteArray := prog_5_method_8_code
def yX3_stepKind : MethodName := ⟨RX3, "stepKind", "(I)I"⟩
abbrev cX3_addAct : ByteArray := prog_5_method_9_code
def yX3_addAct : MethodName := ⟨RX3, "addAct", "(III)V"⟩
abbrev cX3_endSeam : ByteArray := prog_5_method_10_code
def yX3_endSeam : MethodName := ⟨RX3, "endSeam", "()V"⟩
abbrev cX3_addBefore : ByteArray := prog_5_method_11_code
def yX3_addBefore : MethodName := ⟨RX3, "addBefore", "(II)V"⟩
abbrev cX3_firstAct : ByteArray := prog_5_method_12_code
def yX3_firstAct : MethodName := ⟨RX3, "firstAct", "(I)I"⟩
abbrev cX3_endOfActs : ByteArray := prog_5_method_13_code
def yX3_endOfActs : MethodName := ⟨RX3, "endOfActs", "(I)I"⟩
abbrev cX3_mayFollow : ByteArray := prog_5_method_14_code
def yX3_mayFollow : MethodName := ⟨RX3, "mayFollow", "(II)Z"⟩
def RX4 : String := "SeamPull$Reader"
def TX4 : u_T := fun k => match k with
  | 0 => ("SeamPull$Reader", "tape", "LSeamPull$Tape;", true)
  | _ => ("SeamPull$Reader", "taken", "I", false)
def tyX4 : Nat → FieldType := fun k => match k with
  | 0 => .object "SeamPull$Tape"
  | _ => .int
abbrev wsX40 : List Cond := u_ws RX4 TX4 2
theorem nmX4 : ∀ a, a < 2 → ∀ b, b < 2 → a ≠ b → (TX4 a).2.1 ≠ (TX4 b).2.1 := by decide +kernel
theorem tyX4_ok : ∀ k, k < 2 → parseFieldDescriptor (TX4 k).2.2.1 = some (tyX4 k) := by decide +kernel
abbrev cX4_init : ByteArray := prog_6_method_1_code
def yX4_init : MethodName := ⟨RX4, "<init>", "(LSeamPull$Tape;)V"⟩
abbrev cX4_readInto : ByteArray := prog_6_method_2_code
def yX4_readInto : MethodName := ⟨RX4, "readInto", "(LSeamPull$Plan;)I"⟩
abbrev cX4_takePanel : ByteArray := prog_6_method_3_code
def yX4_takePanel : MethodName := ⟨RX4, "takePanel", "(LSeamPull$Plan;)I"⟩
abbrev cX4_takeSeam : ByteArray := prog_6_method_4_code
def yX4_takeSeam : MethodName := ⟨RX4, "takeSeam", "(LSeamPull$Plan;)I"⟩
abbrev cX4_takeAct : ByteArray := prog_6_method_5_code
def yX4_takeAct : MethodName := ⟨RX4, "takeAct", "(LSeamPull$Plan;I)I"⟩
abbrev cX4_takeBefore : ByteArray := prog_6_method_6_code
def yX4_takeBefore : MethodName := ⟨RX4, "takeBefore", "(LSeamPull$Plan;)I"⟩
abbrev cX4_takeNumber : ByteArray := prog_6_method_7_code
def yX4_takeNumber : MethodName := ⟨RX4, "takeNumber", "(II)I"⟩
abbrev cX4_takeSign : ByteArray := prog_6_method_8_code
def yX4_takeSign : MethodName := ⟨RX4, "takeSign", "()I"⟩
def RX5 : String := "SeamPull$Search"
def TX5 : u_T := fun k => match k with
  | 0 => ("SeamPull$Search", "panels", "[LSeamPull$Panel;", true)
  | 1 => ("SeamPull$Search", "tried", "[I", true)
  | 2 => ("SeamPull$Search", "nearest", "[I", true)
  | 3 => ("SeamPull$Search", "ways", "[I", true)
  | 4 => ("SeamPull$Search", "known", "Z", false)
  | 5 => ("SeamPull$Search", "fits", "Z", false)
  | _ => ("SeamPull$Search", "leastOff", "I", false)
def tyX5 : Nat → FieldType := fun k => match k with
  | 0 => .array (.object "SeamPull$Panel")
  | 1 => .array .int
  | 2 => .array .int
  | 3 => .array .int
  | 4 => .boolean
  | 5 => .boolean
  | _ => .int
abbrev wsX50 : List Cond := u_ws RX5 TX5 7
theorem nmX5 : ∀ a, a < 7 → ∀ b, b < 7 → a ≠ b → (TX5 a).2.1 ≠ (TX5 b).2.1 := by decide +kernel
theorem tyX5_ok : ∀ k, k < 7 → parseFieldDescriptor (TX5 k).2.2.1 = some (tyX5 k) := by decide +kernel
abbrev cX5_init : ByteArray := prog_7_method_1_code
def yX5_init : MethodName := ⟨RX5, "<init>", "()V"⟩
abbrev cX5_forget : ByteArray := prog_7_method_2_code
def yX5_forget : MethodName := ⟨RX5, "forget", "()V"⟩
abbrev cX5_look : ByteArray := prog_7_method_3_code
def yX5_look : MethodName := ⟨RX5, "look", "(LSeamPull$Plan;[I)V"⟩
abbrev cX5_tryFrom : ByteArray := prog_7_method_4_code
def yX5_tryFrom : MethodName := ⟨RX5, "tryFrom", "(LSeamPull$Plan;II)V"⟩
abbrev cX5_weigh : ByteArray := prog_7_method_5_code
def yX5_weigh : MethodName := ⟨RX5, "weigh", "(LSeamPull$Panel;I)V"⟩
abbrev cX5_howManyFit : ByteArray := prog_7_method_6_code
def yX5_howManyFit : MethodName := ⟨RX5, "howManyFit", "(LSeamPull$Plan;)I"⟩
def RX6 : String := "SeamPull$Shelf"
def TX6 : u_T := fun k => match k with
  | 0 => ("SeamPull$Shelf", "lanes", "[I", true)
  | 1 => ("SeamPull$Shelf", "sizes", "[I", true)
  | _ => ("SeamPull$Shelf", "items", "[[I", true)
def tyX6 : Nat → FieldType := fun k => match k with
  | 0 => .array .int
  | 1 => .array .int
  | _ => .array (.array .int)
abbrev wsX60 : List Cond := u_ws RX6 TX6 3
theorem nmX6 : ∀ a, a < 3 → ∀ b, b < 3 → a ≠ b → (TX6 a).2.1 ≠ (TX6 b).2.1 := by decide +kernel
theorem tyX6_ok : ∀ k, k < 3 → parseFieldDescriptor (TX6 k).2.2.1 = some (tyX6 k) := by decide +kernel
abbrev cX6_init : ByteArray := prog_8_method_1_code
def yX6_init : MethodName := ⟨RX6, "<init>", "()V"⟩
abbrev cX6_hasNumber : ByteArray := prog_8_method_2_code
def yX6_hasNumber : MethodName := ⟨RX6, "hasNumber", "(I)Z"⟩
abbrev cX6_isMissing : ByteArray := prog_8_method_3_code
def yX6_isMissing : MethodName := ⟨RX6, "isMissing", "(I)Z"⟩
abbrev cX6_howMany : ByteArray := prog_8_method_4_code
def yX6_howMany : MethodName := ⟨RX6, "howMany", "()I"⟩
abbrev cX6_findingAt : ByteArray := prog_8_method_5_code
def yX6_findingAt : MethodName := ⟨RX6, "findingAt", "(III)I"⟩
abbrev cX6_findingBetween : ByteArray := prog_8_method_6_code
def yX6_findingBetween : MethodName := ⟨RX6, "findingBetween", "(II)I"⟩
abbrev cX6_lay : ByteArray := prog_8_method_7_code
def yX6_lay : MethodName := ⟨RX6, "lay", "(III)V"⟩
abbrev cX6_takeAway : ByteArray := prog_8_method_8_code
def yX6_takeAway : MethodName := ⟨RX6, "takeAway", "(I)I"⟩
abbrev cX6_put : ByteArray := prog_8_method_9_code
def yX6_put : MethodName := ⟨RX6, "put", "(III)I"⟩
abbrev cX6_narrowed : ByteArray := prog_8_method_10_code
def yX6_narrowed : MethodName := ⟨RX6, "narrowed", "(II)I"⟩
abbrev cX6_carry : ByteArray := prog_8_method_11_code
def yX6_carry : MethodName := ⟨RX6, "carry", "(IIIII)V"⟩
abbrev cX6_itemAt : ByteArray := prog_8_method_12_code
def yX6_itemAt : MethodName := ⟨RX6, "itemAt", "(II)I"⟩
abbrev cX6_tellsOrder : ByteArray := prog_8_method_13_code
def yX6_tellsOrder : MethodName := ⟨RX6, "tellsOrder", "(III)Z"⟩
abbrev cX6_allWithin : ByteArray := prog_8_method_14_code
def yX6_allWithin : MethodName := ⟨RX6, "allWithin", "(IIII)Z"⟩
def RX7 : String := "SeamPull$Tape"
def TX7 : u_T := fun k => match k with
  | 0 => ("SeamPull$Tape", "bytes", "[B", true)
  | 1 => ("SeamPull$Tape", "size", "I", false)
  | 2 => ("SeamPull$Tape", "start", "I", false)
  | 3 => ("SeamPull$Tape", "end", "I", false)
  | _ => ("SeamPull$Tape", "sort", "I", false)
def tyX7 : Nat → FieldType := fun k => match k with
  | 0 => .array .byte
  | 1 => .int
  | 2 => .int
  | 3 => .int
  | _ => .int
abbrev wsX70 : List Cond := u_ws RX7 TX7 5
theorem nmX7 : ∀ a, a < 5 → ∀ b, b < 5 → a ≠ b → (TX7 a).2.1 ≠ (TX7 b).2.1 := by decide +kernel
theorem tyX7_ok : ∀ k, k < 5 → parseFieldDescriptor (TX7 k).2.2.1 = some (tyX7 k) := by decide +kernel
abbrev cX7_init : ByteArray := prog_9_method_1_code
def yX7_init : MethodName := ⟨RX7, "<init>", "()V"⟩
abbrev cX7_hasRoom : ByteArray := prog_9_method_2_code
def yX7_hasRoom : MethodName := ⟨RX7, "hasRoom", "(I)Z"⟩
abbrev cX7_append : ByteArray := prog_9_method_3_code
def yX7_append : MethodName := ⟨RX7, "append", "(JI)I"⟩
abbrev cX7_empty : ByteArray := prog_9_method_4_code
def yX7_empty : MethodName := ⟨RX7, "empty", "()V"⟩
abbrev cX7_tokenPlace : ByteArray := prog_9_method_5_code
def yX7_tokenPlace : MethodName := ⟨RX7, "tokenPlace", "()I"⟩
abbrev cX7_toFirst : ByteArray := prog_9_method_6_code
def yX7_toFirst : MethodName := ⟨RX7, "toFirst", "()V"⟩
abbrev cX7_toNext : ByteArray := prog_9_method_7_code
def yX7_toNext : MethodName := ⟨RX7, "toNext", "()V"⟩
abbrev cX7_sortOf : ByteArray := prog_9_method_8_code
def yX7_sortOf : MethodName := ⟨RX7, "sortOf", "(I)I"⟩
abbrev cX7_spells : ByteArray := prog_9_method_9_code
def yX7_spells : MethodName := ⟨RX7, "spells", "(Ljava/lang/String;)Z"⟩
abbrev cX7_spelling : ByteArray := prog_9_method_10_code
def yX7_spelling : MethodName := ⟨RX7, "spelling", "(I)Ljava/lang/String;"⟩
abbrev cX7_atEnd : ByteArray := prog_9_method_11_code
def yX7_atEnd : MethodName := ⟨RX7, "atEnd", "()Z"⟩
abbrev cX7_atWord : ByteArray := prog_9_method_12_code
def yX7_atWord : MethodName := ⟨RX7, "atWord", "(I)Z"⟩
abbrev cX7_actHere : ByteArray := prog_9_method_13_code
def yX7_actHere : MethodName := ⟨RX7, "actHere", "()I"⟩
abbrev cX7_atNumber : ByteArray := prog_9_method_14_code
def yX7_atNumber : MethodName := ⟨RX7, "atNumber", "()Z"⟩
abbrev cX7_numberHere : ByteArray := prog_9_method_15_code
def yX7_numberHere : MethodName := ⟨RX7, "numberHere", "()I"⟩
abbrev cX7_atSign : ByteArray := prog_9_method_16_code
def yX7_atSign : MethodName := ⟨RX7, "atSign", "()Z"⟩
def RX8 : String := "SeamPull"
def TX8 : u_T := fun k => match k with
  | 0 => ("SeamPull", "shelf", "LSeamPull$Shelf;", true)
  | 1 => ("SeamPull", "tape", "LSeamPull$Tape;", true)
  | 2 => ("SeamPull", "reader", "LSeamPull$Reader;", true)
  | 3 => ("SeamPull", "setTo", "[I", true)
  | 4 => ("SeamPull", "order", "[I", true)
  | 5 => ("SeamPull", "row", "[I", true)
  | 6 => ("SeamPull", "latest", "LSeamPull$Panel;", true)
  | 7 => ("SeamPull", "trial", "LSeamPull$Panel;", true)
  | 8 => ("SeamPull", "search", "LSeamPull$Search;", true)
  | 9 => ("SeamPull", "ahead", "LSeamPull$Beforehand;", true)
  | 10 => ("SeamPull", "asks", "LSeamPull$Asks;", true)
  | 11 => ("SeamPull", "plan", "LSeamPull$Plan;", false)
  | 12 => ("SeamPull", "draft", "LSeamPull$Plan;", false)
  | 13 => ("SeamPull", "ran", "Z", false)
  | 14 => ("SeamPull", "latestFault", "I", false)
  | _ => ("SeamPull", "latestFinding", "I", false)
def tyX8 : Nat → FieldType := fun k => match k with
  | 0 => .object "SeamPull$Shelf"
  | 1 => .object "SeamPull$Tape"
  | 2 => .object "SeamPull$Reader"
  | 3 => .array .int
  | 4 => .array .int
  | 5 => .array .int
  | 6 => .object "SeamPull$Panel"
  | 7 => .object "SeamPull$Panel"
  | 8 => .object "SeamPull$Search"
  | 9 => .object "SeamPull$Beforehand"
  | 10 => .object "SeamPull$Asks"
  | 11 => .object "SeamPull$Plan"
  | 12 => .object "SeamPull$Plan"
  | 13 => .boolean
  | 14 => .int
  | _ => .int
abbrev wsX80 : List Cond := u_ws RX8 TX8 16
theorem nmX8 : ∀ a, a < 16 → ∀ b, b < 16 → a ≠ b → (TX8 a).2.1 ≠ (TX8 b).2.1 := by decide +kernel
theorem tyX8_ok : ∀ k, k < 16 → parseFieldDescriptor (TX8 k).2.2.1 = some (tyX8 k) := by decide +kernel
abbrev cX8_init : ByteArray := prog_1_method_1_code
def yX8_init : MethodName := ⟨RX8, "<init>", "()V"⟩
abbrev cX8_sheet : ByteArray := prog_1_method_2_code
def yX8_sheet : MethodName := ⟨RX8, "sheet", "(III)I"⟩
abbrev cX8_set : ByteArray := prog_1_method_3_code
def yX8_set : MethodName := ⟨RX8, "set", "(III)I"⟩
abbrev cX8_copy : ByteArray := prog_1_method_4_code
def yX8_copy : MethodName := ⟨RX8, "copy", "(IIIII)I"⟩
abbrev cX8_drop : ByteArray := prog_1_method_5_code
def yX8_drop : MethodName := ⟨RX8, "drop", "(I)I"⟩
abbrev cX8_feed : ByteArray := prog_1_method_6_code
def yX8_feed : MethodName := ⟨RX8, "feed", "(JI)I"⟩
abbrev cX8_plan : ByteArray := prog_1_method_7_code
def yX8_plan : MethodName := ⟨RX8, "plan", "()I"⟩
abbrev cX8_beginPlan : ByteArray := prog_1_method_8_code
def yX8_beginPlan : MethodName := ⟨RX8, "beginPlan", "()V"⟩
abbrev cX8_fault : ByteArray := prog_1_method_9_code
def yX8_fault : MethodName := ⟨RX8, "fault", "()I"⟩
abbrev cX8_act : ByteArray := prog_1_method_10_code
def yX8_act : MethodName := ⟨RX8, "act", "(II)I"⟩
abbrev cX8_open : ByteArray := prog_1_method_11_code
def yX8_open : MethodName := ⟨RX8, "open", "(II)I"⟩
abbrev cX8_run : ByteArray := prog_1_method_12_code
def yX8_run : MethodName := ⟨RX8, "run", "(II)I"⟩
abbrev cX8_runs : ByteArray := prog_1_method_13_code
def yX8_runs : MethodName := ⟨RX8, "runs", "()I"⟩
abbrev cX8_standByOrder : ByteArray := prog_1_method_14_code
def yX8_standByOrder : MethodName := ⟨RX8, "standByOrder", "()I"⟩
abbrev cX8_cell : ByteArray := prog_1_method_15_code
def yX8_cell : MethodName := ⟨RX8, "cell", "(II)I"⟩
abbrev cX8_height : ByteArray := prog_1_method_16_code
def yX8_height : MethodName := ⟨RX8, "height", "(I)I"⟩
abbrev cX8_minutes : ByteArray := prog_1_method_17_code
def yX8_minutes : MethodName := ⟨RX8, "minutes", "()I"⟩
abbrev cX8_gives : ByteArray := prog_1_method_18_code
def yX8_gives : MethodName := ⟨RX8, "gives", "(I)I"⟩
abbrev cX8_best : ByteArray := prog_1_method_19_code
def yX8_best : MethodName := ⟨RX8, "best", "(I)I"⟩
abbrev cX8_orders : ByteArray := prog_1_method_20_code
def yX8_orders : MethodName := ⟨RX8, "orders", "()I"⟩
abbrev cX8_beforehand : ByteArray := prog_1_method_21_code
def yX8_beforehand : MethodName := ⟨RX8, "beforehand", "(I)I"⟩
abbrev cX8_spots : ByteArray := prog_1_method_22_code
def yX8_spots : MethodName := ⟨RX8, "spots", "(II)I"⟩
abbrev cX8_drawDown : ByteArray := prog_1_method_23_code
def yX8_drawDown : MethodName := ⟨RX8, "drawDown", "(III)Z"⟩
abbrev cX8_spotAt : ByteArray := prog_1_method_24_code
def yX8_spotAt : MethodName := ⟨RX8, "spotAt", "(II)V"⟩
abbrev cX8_crack : ByteArray := prog_1_method_25_code
def yX8_crack : MethodName := ⟨RX8, "crack", "(I)I"⟩
abbrev cX8_warm : ByteArray := prog_1_method_26_code
def yX8_warm : MethodName := ⟨RX8, "warm", "()I"⟩
abbrev cX8_wire : ByteArray := prog_1_method_27_code
def yX8_wire : MethodName := ⟨RX8, "wire", "(III)I"⟩
abbrev cX8_wireBend : ByteArray := prog_1_method_28_code
def yX8_wireBend : MethodName := ⟨RX8, "wireBend", "(III)I"⟩
abbrev cX8_steelOf : ByteArray := prog_1_method_29_code
def yX8_steelOf : MethodName := ⟨RX8, "steelOf", "(II)I"⟩
abbrev cX8_isSteel : ByteArray := prog_1_method_30_code
def yX8_isSteel : MethodName := ⟨RX8, "isSteel", "(III)Z"⟩
abbrev cX8_kind : ByteArray := prog_1_method_31_code
def yX8_kind : MethodName := ⟨RX8, "kind", "(I)I"⟩
abbrev cX8_as : ByteArray := prog_1_method_32_code
def yX8_as : MethodName := ⟨RX8, "as", "(II)I"⟩
abbrev cX8_ask : ByteArray := prog_1_method_33_code
def yX8_ask : MethodName := ⟨RX8, "ask", "(II)I"⟩
abbrev cX8_trace : ByteArray := prog_1_method_34_code
def yX8_trace : MethodName := ⟨RX8, "trace", "(I)I"⟩
abbrev cX8_count : ByteArray := prog_1_method_35_code
def yX8_count : MethodName := ⟨RX8, "count", "(I)I"⟩
abbrev cX8_status : ByteArray := prog_1_method_36_code
def yX8_status : MethodName := ⟨RX8, "status", "()I"⟩
abbrev cX8_found : ByteArray := prog_1_method_37_code
def yX8_found : MethodName := ⟨RX8, "found", "(I)I"⟩
abbrev cX8_fine : ByteArray := prog_1_method_38_code
def yX8_fine : MethodName := ⟨RX8, "fine", "(I)I"⟩
def RX9 : String := "SeamPullModel"
def TX9 : u_T := fun k => match k with
  | 0 => ("SeamPullModel", "thrown", "I", false)
  | 1 => ("SeamPullModel", "status", "I", false)
  | 2 => ("SeamPullModel", "lane", "[I", true)
  | 3 => ("SeamPullModel", "many", "[I", true)
  | 4 => ("SeamPullModel", "item", "[I", true)
  | 5 => ("SeamPullModel", "cells", "I", false)
  | 6 => ("SeamPullModel", "seams", "I", false)
  | 7 => ("SeamPullModel", "acts", "I", false)
  | 8 => ("SeamPullModel", "befores", "I", false)
  | 9 => ("SeamPullModel", "act", "[I", true)
  | 10 => ("SeamPullModel", "ahead", "[I", true)
  | 11 => ("SeamPullModel", "behind", "[I", true)
  | 12 => ("SeamPullModel", "newCells", "I", false)
  | 13 => ("SeamPullModel", "newSeams", "I", false)
  | 14 => ("SeamPullModel", "newActs", "I", false)
  | 15 => ("SeamPullModel", "newBefores", "I", false)
  | 16 => ("SeamPullModel", "newAct", "[I", true)
  | 17 => ("SeamPullModel", "newAhead", "[I", true)
  | 18 => ("SeamPullModel", "newBehind", "[I", true)
  | 19 => ("SeamPullModel", "tape", "[I", true)
  | 20 => ("SeamPullModel", "taped", "I", false)
  | 21 => ("SeamPullModel", "latest", "I", false)
  | 22 => ("SeamPullModel", "length", "I", false)
  | 23 => ("SeamPullModel", "cursor", "I", false)
  | 24 => ("SeamPullModel", "token", "I", false)
  | 25 => ("SeamPullModel", "from", "I", false)
  | 26 => ("SeamPullModel", "till", "I", false)
  | 27 => ("SeamPullModel", "fault", "I", false)
  | 28 => ("SeamPullModel", "faultAt", "I", false)
  | 29 => ("SeamPullModel", "opened", "[I", true)
  | 30 => ("SeamPullModel", "lastOrder", "[I", true)
  | 31 => ("SeamPullModel", "isRun", "Z", false)
  | 32 => ("SeamPullModel", "now", "[I", true)
  | 33 => ("SeamPullModel", "spring", "[I", true)
  | 34 => ("SeamPullModel", "isClamped", "[Z", true)
  | 35 => ("SeamPullModel", "went", "I", false)
  | 36 => ("SeamPullModel", "left", "[I", true)
  | 37 => ("SeamPullModel", "leftMinutes", "I", false)
  | 38 => ("SeamPullModel", "begins", "[I", true)
  | 39 => ("SeamPullModel", "order", "[I", true)
  | 40 => ("SeamPullModel", "bestOrder", "[I", true)
  | 41 => ("SeamPullModel", "trace", "[I", true)
  | _ => ("SeamPullModel", "traced", "I", false)
def tyX9 : Nat → FieldType := fun k => match k with
  | 0 => .int
  | 1 => .int
  | 2 => .array .int
  | 3 => .array .int
  | 4 => .array .int
  | 5 => .int
  | 6 => .int
  | 7 => .int
  | 8 => .int
  | 9 => .array .int
  | 10 => .array .int
  | 11 => .array .int
  | 12 => .int
  | 13 => .int
  | 14 => .int
  | 15 => .int
  | 16 => .array .int
  | 17 => .array .int
  | 18 => .array .int
  | 19 => .array .int
  | 20 => .int
  | 21 => .int
  | 22 => .int
  | 23 => .int
  | 24 => .int
  | 25 => .int
  | 26 => .int
  | 27 => .int
  | 28 => .int
  | 29 => .array .int
  | 30 => .array .int
  | 31 => .boolean
  | 32 => .array .int
  | 33 => .array .int
  | 34 => .array .boolean
  | 35 => .int
  | 36 => .array .int
  | 37 => .int
  | 38 => .array .int
  | 39 => .array .int
  | 40 => .array .int
  | 41 => .array .int
  | _ => .int
abbrev wsX90 : List Cond := u_ws RX9 TX9 43
theorem nmX9 : ∀ a, a < 43 → ∀ b, b < 43 → a ≠ b → (TX9 a).2.1 ≠ (TX9 b).2.1 := by decide +kernel
theorem tyX9_ok : ∀ k, k < 43 → parseFieldDescriptor (TX9 k).2.2.1 = some (tyX9 k) := by decide +kernel
abbrev cX9_init : ByteArray := prog_11_method_1_code
def yX9_init : MethodName := ⟨RX9, "<init>", "()V"⟩
abbrev cX9_in : ByteArray := prog_11_method_3_code
def yX9_in : MethodName := ⟨RX9, "in", "(JJJ)Z"⟩
abbrev cX9_finding : ByteArray := prog_11_method_4_code
def yX9_finding : MethodName := ⟨RX9, "finding", "(I)I"⟩
abbrev cX9_isSheet : ByteArray := prog_11_method_5_code
def yX9_isSheet : MethodName := ⟨RX9, "isSheet", "(I)Z"⟩
abbrev cX9_sheet : ByteArray := prog_11_method_6_code
def yX9_sheet : MethodName := ⟨RX9, "sheet", "(III)I"⟩
abbrev cX9_set : ByteArray := prog_11_method_7_code
def yX9_set : MethodName := ⟨RX9, "set", "(III)I"⟩
abbrev cX9_copy : ByteArray := prog_11_method_8_code
def yX9_copy : MethodName := ⟨RX9, "copy", "(IIIII)I"⟩
abbrev cX9_drop : ByteArray := prog_11_method_9_code
def yX9_drop : MethodName := ⟨RX9, "drop", "(I)I"⟩
abbrev cX9_feed : ByteArray := prog_11_method_10_code
def yX9_feed : MethodName := ⟨RX9, "feed", "(JI)I"⟩
abbrev cX9_byteAt : ByteArray := prog_11_method_11_code
def yX9_byteAt : MethodName := ⟨RX9, "byteAt", "(I)I"⟩
abbrev cX9_isLetter : ByteArray := prog_11_method_12_code
def yX9_isLetter : MethodName := ⟨RX9, "isLetter", "(I)Z"⟩
abbrev cX9_isFigure : ByteArray := prog_11_method_13_code
def yX9_isFigure : MethodName := ⟨RX9, "isFigure", "(I)Z"⟩
abbrev cX9_next : ByteArray := prog_11_method_14_code
def yX9_next : MethodName := ⟨RX9, "next", "()V"⟩
abbrev cX9_bad : ByteArray := prog_11_method_15_code
def yX9_bad : MethodName := ⟨RX9, "bad", "(I)V"⟩
abbrev cX9_must : ByteArray := prog_11_method_16_code
def yX9_must : MethodName := ⟨RX9, "must", "(Z)V"⟩
abbrev cX9_word : ByteArray := prog_11_method_17_code
def yX9_word : MethodName := ⟨RX9, "word", "()J"⟩
abbrev cX9_numberIn : ByteArray := prog_11_method_18_code
def yX9_numberIn : MethodName := ⟨RX9, "numberIn", "(III)I"⟩
abbrev cX9_kindOfWord : ByteArray := prog_11_method_19_code
def yX9_kindOfWord : MethodName := ⟨RX9, "kindOfWord", "()I"⟩
abbrev cX9_mustEnd : ByteArray := prog_11_method_20_code
def yX9_mustEnd : MethodName := ⟨RX9, "mustEnd", "()V"⟩
abbrev cX9_readAct : ByteArray := prog_11_method_21_code
def yX9_readAct : MethodName := ⟨RX9, "readAct", "(I)V"⟩
abbrev cX9_readSeam : ByteArray := prog_11_method_22_code
def yX9_readSeam : MethodName := ⟨RX9, "readSeam", "()V"⟩
abbrev cX9_readBefore : ByteArray := prog_11_method_23_code
def yX9_readBefore : MethodName := ⟨RX9, "readBefore", "()V"⟩
abbrev cX9_plan : ByteArray := prog_11_method_24_code
def yX9_plan : MethodName := ⟨RX9, "plan", "()I"⟩
abbrev cX9_fault : ByteArray := prog_11_method_25_code
def yX9_fault : MethodName := ⟨RX9, "fault", "()I"⟩
abbrev cX9_isAct : ByteArray := prog_11_method_26_code
def yX9_isAct : MethodName := ⟨RX9, "isAct", "(I)Z"⟩
abbrev cX9_isCell : ByteArray := prog_11_method_27_code
def yX9_isCell : MethodName := ⟨RX9, "isCell", "(I)Z"⟩
abbrev cX9_act : ByteArray := prog_11_method_28_code
def yX9_act : MethodName := ⟨RX9, "act", "(II)I"⟩
abbrev cX9_open : ByteArray := prog_11_method_29_code
def yX9_open : MethodName := ⟨RX9, "open", "(II)I"⟩
abbrev cX9_minute : ByteArray := prog_11_method_30_code
def yX9_minute : MethodName := ⟨RX9, "minute", "()V"⟩
abbrev cX9_holds : ByteArray := prog_11_method_31_code
def yX9_holds : MethodName := ⟨RX9, "holds", "(I)Z"⟩
abbrev cX9_shrinks : ByteArray := prog_11_method_32_code
def yX9_shrinks : MethodName := ⟨RX9, "shrinks", "(III)I"⟩
abbrev cX9_step : ByteArray := prog_11_method_33_code
def yX9_step : MethodName := ⟨RX9, "step", "(III)V"⟩
abbrev cX9_free : ByteArray := prog_11_method_34_code
def yX9_free : MethodName := ⟨RX9, "free", "(I)V"⟩
abbrev cX9_doAct : ByteArray := prog_11_method_35_code
def yX9_doAct : MethodName := ⟨RX9, "doAct", "(I)V"⟩
abbrev cX9_go : ByteArray := prog_11_method_36_code
def yX9_go : MethodName := ⟨RX9, "go", "(I)V"⟩
abbrev cX9_heightBy : ByteArray := prog_11_method_37_code
def yX9_heightBy : MethodName := ⟨RX9, "heightBy", "([II)I"⟩
abbrev cX9_offBy : ByteArray := prog_11_method_38_code
def yX9_offBy : MethodName := ⟨RX9, "offBy", "()I"⟩
abbrev cX9_layOpened : ByteArray := prog_11_method_39_code
def yX9_layOpened : MethodName := ⟨RX9, "layOpened", "()V"⟩
abbrev cX9_stand : ByteArray := prog_11_method_40_code
def yX9_stand : MethodName := ⟨RX9, "stand", "()V"⟩
abbrev cX9_run : ByteArray := prog_11_method_41_code
def yX9_run : MethodName := ⟨RX9, "run", "(II)I"⟩
abbrev cX9_layNumbers : ByteArray := prog_11_method_42_code
def yX9_layNumbers : MethodName := ⟨RX9, "layNumbers", "()V"⟩
abbrev cX9_runs : ByteArray := prog_11_method_43_code
def yX9_runs : MethodName := ⟨RX9, "runs", "()I"⟩
abbrev cX9_layStanding : ByteArray := prog_11_method_44_code
def yX9_layStanding : MethodName := ⟨RX9, "layStanding", "()V"⟩
abbrev cX9_cell : ByteArray := prog_11_method_45_code
def yX9_cell : MethodName := ⟨RX9, "cell", "(II)I"⟩
abbrev cX9_height : ByteArray := prog_11_method_46_code
def yX9_height : MethodName := ⟨RX9, "height", "(I)I"⟩
abbrev cX9_minutes : ByteArray := prog_11_method_47_code
def yX9_minutes : MethodName := ⟨RX9, "minutes", "()I"⟩
abbrev cX9_gives : ByteArray := prog_11_method_48_code
def yX9_gives : MethodName := ⟨RX9, "gives", "(I)I"⟩
abbrev cX9_fits : ByteArray := prog_11_method_49_code
def yX9_fits : MethodName := ⟨RX9, "fits", "()Z"⟩
abbrev cX9_nextOrder : ByteArray := prog_11_method_50_code
def yX9_nextOrder : MethodName := ⟨RX9, "nextOrder", "()Z"⟩
abbrev cX9_best : ByteArray := prog_11_method_51_code
def yX9_best : MethodName := ⟨RX9, "best", "(I)I"⟩
abbrev cX9_orders : ByteArray := prog_11_method_52_code
def yX9_orders : MethodName := ⟨RX9, "orders", "()I"⟩
abbrev cX9_setBy : ByteArray := prog_11_method_53_code
def yX9_setBy : MethodName := ⟨RX9, "setBy", "(I)I"⟩
abbrev cX9_beforehand : ByteArray := prog_11_method_54_code
def yX9_beforehand : MethodName := ⟨RX9, "beforehand", "(I)I"⟩
abbrev cX9_flame : ByteArray := prog_11_method_55_code
def yX9_flame : MethodName := ⟨RX9, "flame", "(II)V"⟩
abbrev cX9_spots : ByteArray := prog_11_method_56_code
def yX9_spots : MethodName := ⟨RX9, "spots", "(II)I"⟩
abbrev cX9_crackAt : ByteArray := prog_11_method_57_code
def yX9_crackAt : MethodName := ⟨RX9, "crackAt", "(I)I"⟩
abbrev cX9_crack : ByteArray := prog_11_method_58_code
def yX9_crack : MethodName := ⟨RX9, "crack", "(I)I"⟩
abbrev cX9_warm : ByteArray := prog_11_method_59_code
def yX9_warm : MethodName := ⟨RX9, "warm", "()I"⟩
abbrev cX9_bendBy : ByteArray := prog_11_method_60_code
def yX9_bendBy : MethodName := ⟨RX9, "bendBy", "(II)I"⟩
abbrev cX9_wire : ByteArray := prog_11_method_61_code
def yX9_wire : MethodName := ⟨RX9, "wire", "(III)I"⟩
abbrev cX9_isStep : ByteArray := prog_11_method_62_code
def yX9_isStep : MethodName := ⟨RX9, "isStep", "(I)Z"⟩
abbrev cX9_isOf : ByteArray := prog_11_method_63_code
def yX9_isOf : MethodName := ⟨RX9, "isOf", "(II)Z"⟩
abbrev cX9_kind : ByteArray := prog_11_method_64_code
def yX9_kind : MethodName := ⟨RX9, "kind", "(I)I"⟩
abbrev cX9_as : ByteArray := prog_11_method_65_code
def yX9_as : MethodName := ⟨RX9, "as", "(II)I"⟩
abbrev cX9_began : ByteArray := prog_11_method_66_code
def yX9_began : MethodName := ⟨RX9, "began", "(I)V"⟩
abbrev cX9_flameSize : ByteArray := prog_11_method_67_code
def yX9_flameSize : MethodName := ⟨RX9, "flameSize", "(I)I"⟩
abbrev cX9_markOf : ByteArray := prog_11_method_68_code
def yX9_markOf : MethodName := ⟨RX9, "markOf", "(II)I"⟩
abbrev cX9_sizeOf : ByteArray := prog_11_method_69_code
def yX9_sizeOf : MethodName := ⟨RX9, "sizeOf", "(II)I"⟩
abbrev cX9_ask : ByteArray := prog_11_method_70_code
def yX9_ask : MethodName := ⟨RX9, "ask", "(II)I"⟩
abbrev cX9_trace : ByteArray := prog_11_method_71_code
def yX9_trace : MethodName := ⟨RX9, "trace", "(I)I"⟩
abbrev cX9_count : ByteArray := prog_11_method_72_code
def yX9_count : MethodName := ⟨RX9, "count", "(I)I"⟩
abbrev cX9_status : ByteArray := prog_11_method_73_code
def yX9_status : MethodName := ⟨RX9, "status", "()I"⟩
def RJ6 : String := "java/lang/Integer"
def TJ6 : u_T := fun k => match k with
  | _ => ("", "", "", false)
def tyJ6 : Nat → FieldType := fun k => match k with
  | _ => .int
abbrev wsJ60 : List Cond := u_ws RJ6 TJ6 0
theorem nmJ6 : ∀ a, a < 0 → ∀ b, b < 0 → a ≠ b → (TJ6 a).2.1 ≠ (TJ6 b).2.1 := by decide +kernel
theorem tyJ6_ok : ∀ k, k < 0 → parseFieldDescriptor (TJ6 k).2.2.1 = some (tyJ6 k) := by decide +kernel
abbrev cJ6_bitCount_0f7a4 : ByteArray := prog_12_method_49_code
def yJ6_bitCount_0f7a4 : MethodName := ⟨RJ6, "bitCount", "(I)I"⟩
def RJ9 : String := "java/lang/Math"
def TJ9 : u_T := fun k => match k with
  | _ => ("", "", "", false)
def tyJ9 : Nat → FieldType := fun k => match k with
  | _ => .int
abbrev wsJ90 : List Cond := u_ws RJ9 TJ9 0
theorem nmJ9 : ∀ a, a < 0 → ∀ b, b < 0 → a ≠ b → (TJ9 a).2.1 ≠ (TJ9 b).2.1 := by decide +kernel
theorem tyJ9_ok : ∀ k, k < 0 → parseFieldDescriptor (TJ9 k).2.2.1 = some (tyJ9 k) := by decide +kernel
abbrev cJ9_abs_0f7a4 : ByteArray := prog_13_method_59_code
def yJ9_abs_0f7a4 : MethodName := ⟨RJ9, "abs", "(I)I"⟩
abbrev cJ9_max_7cf53 : ByteArray := prog_13_method_65_code
def yJ9_max_7cf53 : MethodName := ⟨RJ9, "max", "(II)I"⟩
abbrev cJ9_min_7cf53 : ByteArray := prog_13_method_69_code
def yJ9_min_7cf53 : MethodName := ⟨RJ9, "min", "(II)I"⟩
def RJ0 : String := "java/lang/String"
def TJ0 : u_T := fun k => match k with
  | _ => ("", "", "", false)
def tyJ0 : Nat → FieldType := fun k => match k with
  | _ => .int
abbrev wsJ00 : List Cond := u_ws RJ0 TJ0 0
theorem nmJ0 : ∀ a, a < 0 → ∀ b, b < 0 → a ≠ b → (TJ0 a).2.1 ≠ (TJ0 b).2.1 := by decide +kernel
theorem tyJ0_ok : ∀ k, k < 0 → parseFieldDescriptor (TJ0 k).2.2.1 = some (tyJ0 k) := by decide +kernel
abbrev cJ0_length_8abf5 : ByteArray := prog_14_method_54_code
def yJ0_length_8abf5 : MethodName := ⟨RJ0, "length", "()I"⟩
abbrev cJ0_charAt_5068e : ByteArray := prog_14_method_56_code
def yJ0_charAt_5068e : MethodName := ⟨RJ0, "charAt", "(I)C"⟩
abbrev cJ0_coder_7d493 : ByteArray := prog_14_method_152_code
def yJ0_coder_7d493 : MethodName := ⟨RJ0, "coder", "()B"⟩
abbrev cJ0_isLatin1_aae02 : ByteArray := prog_14_method_154_code
def yJ0_isLatin1_aae02 : MethodName := ⟨RJ0, "isLatin1", "()Z"⟩
abbrev cJ0_checkIndex_df160 : ByteArray := prog_14_method_155_code
def yJ0_checkIndex_df160 : MethodName := ⟨RJ0, "checkIndex", "(II)V"⟩
def RJ1 : String := "java/lang/StringLatin1"
def TJ1 : u_T := fun k => match k with
  | _ => ("", "", "", false)
def tyJ1 : Nat → FieldType := fun k => match k with
  | _ => .int
abbrev wsJ10 : List Cond := u_ws RJ1 TJ1 0
theorem nmJ1 : ∀ a, a < 0 → ∀ b, b < 0 → a ≠ b → (TJ1 a).2.1 ≠ (TJ1 b).2.1 := by decide +kernel
theorem tyJ1_ok : ∀ k, k < 0 → parseFieldDescriptor (TJ1 k).2.2.1 = some (tyJ1 k) := by decide +kernel
abbrev cJ1_charAt_3b067 : ByteArray := prog_15_method_2_code
def yJ1_charAt_3b067 : MethodName := ⟨RJ1, "charAt", "([BI)C"⟩
def RJ2 : String := "java/lang/StringUTF16"
def TJ2 : u_T := fun k => match k with
  | _ => ("", "", "", false)
def tyJ2 : Nat → FieldType := fun k => match k with
  | _ => .int
abbrev wsJ20 : List Cond := u_ws RJ2 TJ2 0
theorem nmJ2 : ∀ a, a < 0 → ∀ b, b < 0 → a ≠ b → (TJ2 a).2.1 ≠ (TJ2 b).2.1 := by decide +kernel
theorem tyJ2_ok : ∀ k, k < 0 → parseFieldDescriptor (TJ2 k).2.2.1 = some (tyJ2 k) := by decide +kernel
abbrev cJ2_getChar_3b067 : ByteArray := prog_16_method_5_code
def yJ2_getChar_3b067 : MethodName := ⟨RJ2, "getChar", "([BI)C"⟩
abbrev cJ2_length_9d52b : ByteArray := prog_16_method_6_code
def yJ2_length_9d52b : MethodName := ⟨RJ2, "length", "([B)I"⟩
abbrev cJ2_charAt_3b067 : ByteArray := prog_16_method_83_code
def yJ2_charAt_3b067 : MethodName := ⟨RJ2, "charAt", "([BI)C"⟩
abbrev cJ2_checkIndex_2214a : ByteArray := prog_16_method_91_code
def yJ2_checkIndex_2214a : MethodName := ⟨RJ2, "checkIndex", "(I[B)V"⟩
def RJ10 : String := "java/lang/System"
def TJ10 : u_T := fun k => match k with
  | _ => ("", "", "", false)
def tyJ10 : Nat → FieldType := fun k => match k with
  | _ => .int
abbrev wsJ100 : List Cond := u_ws RJ10 TJ10 0
theorem nmJ10 : ∀ a, a < 0 → ∀ b, b < 0 → a ≠ b → (TJ10 a).2.1 ≠ (TJ10 b).2.1 := by decide +kernel
theorem tyJ10_ok : ∀ k, k < 0 → parseFieldDescriptor (TJ10 k).2.2.1 = some (tyJ10 k) := by decide +kernel
def RJ7 : String := "java/util/Arrays"
def TJ7 : u_T := fun k => match k with
  | _ => ("", "", "", false)
def tyJ7 : Nat → FieldType := fun k => match k with
  | _ => .int
abbrev wsJ70 : List Cond := u_ws RJ7 TJ7 0
theorem nmJ7 : ∀ a, a < 0 → ∀ b, b < 0 → a ≠ b → (TJ7 a).2.1 ≠ (TJ7 b).2.1 := by decide +kernel
theorem tyJ7_ok : ∀ k, k < 0 → parseFieldDescriptor (TJ7 k).2.2.1 = some (tyJ7 k) := by decide +kernel
abbrev cJ7_fill_53178 : ByteArray := prog_18_method_103_code
def yJ7_fill_53178 : MethodName := ⟨RJ7, "fill", "([II)V"⟩
def RJ3 : String := "jdk/internal/util/Preconditions"
def TJ3 : u_T := fun k => match k with
  | _ => ("", "", "", false)
def tyJ3 : Nat → FieldType := fun k => match k with
  | _ => .int
abbrev wsJ30 : List Cond := u_ws RJ3 TJ3 0
theorem nmJ3 : ∀ a, a < 0 → ∀ b, b < 0 → a ≠ b → (TJ3 a).2.1 ≠ (TJ3 b).2.1 := by decide +kernel
theorem tyJ3_ok : ∀ k, k < 0 → parseFieldDescriptor (TJ3 k).2.2.1 = some (tyJ3 k) := by decide +kernel
abbrev cJ3_checkIndex_8e157 : ByteArray := prog_19_method_11_code
def yJ3_checkIndex_8e157 : MethodName := ⟨RJ3, "checkIndex", "(IILjava/util/function/BiFunction;)I"⟩
def RL : String := "SeamPullLaw"
abbrev cL_law : ByteArray := code
def yL_law : MethodName := ⟨RL, "law", "([I)Z"⟩
abbrev vwCl : List vw_C := [(RX0, TX0, 2), (RX1, TX1, 3), (RX2, TX2, 10), (RX3, TX3, 10), (RX4, TX4, 2), (RX5, TX5, 7), (RX6, TX6, 3), (RX7, TX7, 5), (RX8, TX8, 16), (RX9, TX9, 43)]
end
section
/-! ===== the words that every method is given ===== -/
theorem bg_in {big ws : List Cond} (ps : List Nat) (hp : ws = ps.filterMap (fun i => big[i]?)) : ∀ w ∈ ws, w ∈ big := by
  intro w hw
  rw [hp] at hw
  obtain ⟨i, -, hi⟩ := List.mem_filterMap.mp hw
  exact List.mem_of_getElem? hi
def BG_0 : List Cond := [.selects "SeamPull" ⟨"SeamPull", "found", "(I)I"⟩ ⟨"SeamPull", "found", "(I)I"⟩, .selects "SeamPull" ⟨"SeamPull", "fine", "(I)I"⟩ ⟨"SeamPull", "fine", "(I)I"⟩, .selects "SeamPull$Reader" ⟨"SeamPull$Reader", "takePanel", "(LSeamPull$Plan;)I"⟩ ⟨"SeamPull$Reader", "takePanel", "(LSeamPull$Plan;)I"⟩, .selects "SeamPull$Tape" ⟨"SeamPull$Tape", "spells", "(Ljava/lang/String;)Z"⟩ ⟨"SeamPull$Tape", "spells", "(Ljava/lang/String;)Z"⟩, .selects "SeamPull$Reader" ⟨"SeamPull$Reader", "takeNumber", "(II)I"⟩ ⟨"SeamPull$Reader", "takeNumber", "(II)I"⟩, .selects "SeamPull$Reader" ⟨"SeamPull$Reader", "takeSign", "()I"⟩ ⟨"SeamPull$Reader", "takeSign", "()I"⟩, .selects "SeamPull$Reader" ⟨"SeamPull$Reader", "takeSeam", "(LSeamPull$Plan;)I"⟩ ⟨"SeamPull$Reader", "takeSeam", "(LSeamPull$Plan;)I"⟩, .selects "SeamPull$Reader" ⟨"SeamPull$Reader", "takeAct", "(LSeamPull$Plan;I)I"⟩ ⟨"SeamPull$Reader", "takeAct", "(LSeamPull$Plan;I)I"⟩, .selects "SeamPull$Reader" ⟨"SeamPull$Reader", "takeBefore", "(LSeamPull$Plan;)I"⟩ ⟨"SeamPull$Reader", "takeBefore", "(LSeamPull$Plan;)I"⟩, .selects "SeamPull" ⟨"SeamPull", "beginPlan", "()V"⟩ ⟨"SeamPull", "beginPlan", "()V"⟩, .selects "SeamPull" ⟨"SeamPull", "standByOrder", "()I"⟩ ⟨"SeamPull", "standByOrder", "()I"⟩, .selects "SeamPull$Panel" ⟨"SeamPull$Panel", "freeOne", "(I)V"⟩ ⟨"SeamPull$Panel", "freeOne", "(I)V"⟩, .selects "SeamPull$Panel" ⟨"SeamPull$Panel", "has", "(I)Z"⟩ ⟨"SeamPull$Panel", "has", "(I)Z"⟩, .selects "SeamPull$Panel" ⟨"SeamPull$Panel", "isClamped", "(I)Z"⟩ ⟨"SeamPull$Panel", "isClamped", "(I)Z"⟩, .selects "SeamPull$Panel" ⟨"SeamPull$Panel", "doStep", "(III)V"⟩ ⟨"SeamPull$Panel", "doStep", "(III)V"⟩, .selects "SeamPull$Panel" ⟨"SeamPull$Panel", "cool", "(I)V"⟩ ⟨"SeamPull$Panel", "cool", "(I)V"⟩, .selects "SeamPull$Panel" ⟨"SeamPull$Panel", "shrinkageOf", "(III)I"⟩ ⟨"SeamPull$Panel", "shrinkageOf", "(III)I"⟩, .selects "SeamPull$Panel" ⟨"SeamPull$Panel", "holds", "(I)Z"⟩ ⟨"SeamPull$Panel", "holds", "(I)Z"⟩, .selects "SeamPull$Panel" ⟨"SeamPull$Panel", "effectOf", "(II)I"⟩ ⟨"SeamPull$Panel", "effectOf", "(II)I"⟩, .selects "SeamPull$Search" ⟨"SeamPull$Search", "tryFrom", "(LSeamPull$Plan;II)V"⟩ ⟨"SeamPull$Search", "tryFrom", "(LSeamPull$Plan;II)V"⟩, .selects "SeamPull$Search" ⟨"SeamPull$Search", "weigh", "(LSeamPull$Panel;I)V"⟩ ⟨"SeamPull$Search", "weigh", "(LSeamPull$Panel;I)V"⟩, .selects "SeamPull$Beforehand" ⟨"SeamPull$Beforehand", "keepWhereFlat", "(LSeamPull$Panel;I)V"⟩ ⟨"SeamPull$Beforehand", "keepWhereFlat", "(LSeamPull$Panel;I)V"⟩, .selects "SeamPull" ⟨"SeamPull", "drawDown", "(III)Z"⟩ ⟨"SeamPull", "drawDown", "(III)Z"⟩, .selects "SeamPull" ⟨"SeamPull", "spotAt", "(II)V"⟩ ⟨"SeamPull", "spotAt", "(II)V"⟩, .selects "SeamPull" ⟨"SeamPull", "steelOf", "(II)I"⟩ ⟨"SeamPull", "steelOf", "(II)I"⟩, .selects "SeamPull" ⟨"SeamPull", "isSteel", "(III)Z"⟩ ⟨"SeamPull", "isSteel", "(III)Z"⟩, .selects "SeamPull" ⟨"SeamPull", "wireBend", "(III)I"⟩ ⟨"SeamPull", "wireBend", "(III)I"⟩, .selects "SeamPull$Asks" ⟨"SeamPull$Asks", "asked", "(LSeamPull$Plan;III)I"⟩ ⟨"SeamPull$Asks", "asked", "(LSeamPull$Plan;III)I"⟩, .selects "SeamPull$Asks" ⟨"SeamPull$Asks", "given", "(LSeamPull$Plan;III)I"⟩ ⟨"SeamPull$Asks", "given", "(LSeamPull$Plan;III)I"⟩, .selects "SeamPull$Asks" ⟨"SeamPull$Asks", "leave", "(I)V"⟩ ⟨"SeamPull$Asks", "leave", "(I)V"⟩, .selects "SeamPullModel" ⟨"SeamPullModel", "finding", "(I)I"⟩ ⟨"SeamPullModel", "finding", "(I)I"⟩, .selects "SeamPullModel" ⟨"SeamPullModel", "next", "()V"⟩ ⟨"SeamPullModel", "next", "()V"⟩, .selects "SeamPullModel" ⟨"SeamPullModel", "byteAt", "(I)I"⟩ ⟨"SeamPullModel", "byteAt", "(I)I"⟩, .selects "SeamPullModel" ⟨"SeamPullModel", "word", "()J"⟩ ⟨"SeamPullModel", "word", "()J"⟩, .selects "SeamPullModel" ⟨"SeamPullModel", "must", "(Z)V"⟩ ⟨"SeamPullModel", "must", "(Z)V"⟩, .selects "SeamPullModel" ⟨"SeamPullModel", "bad", "(I)V"⟩ ⟨"SeamPullModel", "bad", "(I)V"⟩, .selects "SeamPullModel" ⟨"SeamPullModel", "numberIn", "(III)I"⟩ ⟨"SeamPullModel", "numberIn", "(III)I"⟩, .selects "SeamPullModel" ⟨"SeamPullModel", "mustEnd", "()V"⟩ ⟨"SeamPullModel", "mustEnd", "()V"⟩, .selects "SeamPullModel" ⟨"SeamPullModel", "readSeam", "()V"⟩ ⟨"SeamPullModel", "readSeam", "()V"⟩, .selects "SeamPullModel" ⟨"SeamPullModel", "kindOfWord", "()I"⟩ ⟨"SeamPullModel", "kindOfWord", "()I"⟩, .selects "SeamPullModel" ⟨"SeamPullModel", "readAct", "(I)V"⟩ ⟨"SeamPullModel", "readAct", "(I)V"⟩, .selects "SeamPullModel" ⟨"SeamPullModel", "readBefore", "()V"⟩ ⟨"SeamPullModel", "readBefore", "()V"⟩, .selects "SeamPullModel" ⟨"SeamPullModel", "isAct", "(I)Z"⟩ ⟨"SeamPullModel", "isAct", "(I)Z"⟩, .selects "SeamPullModel" ⟨"SeamPullModel", "isCell", "(I)Z"⟩ ⟨"SeamPullModel", "isCell", "(I)Z"⟩, .selects "SeamPullModel" ⟨"SeamPullModel", "layOpened", "()V"⟩ ⟨"SeamPullModel", "layOpened", "()V"⟩, .selects "SeamPullModel" ⟨"SeamPullModel", "go", "(I)V"⟩ ⟨"SeamPullModel", "go", "(I)V"⟩, .selects "SeamPullModel" ⟨"SeamPullModel", "doAct", "(I)V"⟩ ⟨"SeamPullModel", "doAct", "(I)V"⟩, .selects "SeamPullModel" ⟨"SeamPullModel", "minute", "()V"⟩ ⟨"SeamPullModel", "minute", "()V"⟩, .selects "SeamPullModel" ⟨"SeamPullModel", "free", "(I)V"⟩ ⟨"SeamPullModel", "free", "(I)V"⟩, .selects "SeamPullModel" ⟨"SeamPullModel", "step", "(III)V"⟩ ⟨"SeamPullModel", "step", "(III)V"⟩, .selects "SeamPullModel" ⟨"SeamPullModel", "shrinks", "(III)I"⟩ ⟨"SeamPullModel", "shrinks", "(III)I"⟩, .selects "SeamPullModel" ⟨"SeamPullModel", "holds", "(I)Z"⟩ ⟨"SeamPullModel", "holds", "(I)Z"⟩, .selects "SeamPullModel" ⟨"SeamPullModel", "stand", "()V"⟩ ⟨"SeamPullModel", "stand", "()V"⟩, .selects "SeamPullModel" ⟨"SeamPullModel", "offBy", "()I"⟩ ⟨"SeamPullModel", "offBy", "()I"⟩, .selects "SeamPullModel" ⟨"SeamPullModel", "heightBy", "([II)I"⟩ ⟨"SeamPullModel", "heightBy", "([II)I"⟩, .selects "SeamPullModel" ⟨"SeamPullModel", "layNumbers", "()V"⟩ ⟨"SeamPullModel", "layNumbers", "()V"⟩, .selects "SeamPullModel" ⟨"SeamPullModel", "layStanding", "()V"⟩ ⟨"SeamPullModel", "layStanding", "()V"⟩, .selects "SeamPullModel" ⟨"SeamPullModel", "fits", "()Z"⟩ ⟨"SeamPullModel", "fits", "()Z"⟩, .selects "SeamPullModel" ⟨"SeamPullModel", "nextOrder", "()Z"⟩ ⟨"SeamPullModel", "nextOrder", "()Z"⟩, .selects "SeamPullModel" ⟨"SeamPullModel", "setBy", "(I)I"⟩ ⟨"SeamPullModel", "setBy", "(I)I"⟩, .selects "SeamPullModel" ⟨"SeamPullModel", "flame", "(II)V"⟩ ⟨"SeamPullModel", "flame", "(II)V"⟩, .selects "SeamPullModel" ⟨"SeamPullModel", "crackAt", "(I)I"⟩ ⟨"SeamPullModel", "crackAt", "(I)I"⟩, .selects "SeamPullModel" ⟨"SeamPullModel", "bendBy", "(II)I"⟩ ⟨"SeamPullModel", "bendBy", "(II)I"⟩, .selects "SeamPullModel" ⟨"SeamPullModel", "isStep", "(I)Z"⟩ ⟨"SeamPullModel", "isStep", "(I)Z"⟩]
set_option maxRecDepth 100000 in
theorem bgt_0 : ∀ w ∈ BG_0, w ∈ lw_tbl := bg_in [0, 1, 2, 3, 4, 5, 6, 7, 8, 9, 10, 11, 12, 13, 14, 15, 16, 17, 18, 19, 20, 21, 22, 23, 24, 25, 26, 27, 28, 29, 30, 31, 32, 33, 34, 35, 36, 37, 38, 39, 40, 41, 42, 43, 44, 45, 46, 47, 48, 49, 50, 51, 52, 53, 54, 55, 56, 57, 58, 59, 60, 61, 62, 63] (by decide +kernel)
theorem bgg_0 : BG_0.all goodWord = true := by decide +kernel
def BG_1 : List Cond := [.selects "SeamPullModel" ⟨"SeamPullModel", "sizeOf", "(II)I"⟩ ⟨"SeamPullModel", "sizeOf", "(II)I"⟩, .selects "SeamPullModel" ⟨"SeamPullModel", "flameSize", "(I)I"⟩ ⟨"SeamPullModel", "flameSize", "(I)I"⟩, .selects "SeamPullModel" ⟨"SeamPullModel", "began", "(I)V"⟩ ⟨"SeamPullModel", "began", "(I)V"⟩, .selects "SeamPullModel" ⟨"SeamPullModel", "markOf", "(II)I"⟩ ⟨"SeamPullModel", "markOf", "(II)I"⟩, .initialized "SeamPullLaw", .initialized "SeamPull", .initialized "SeamPull$Shelf", .initialized "java/util/Arrays", .initialized "SeamPull$Tape", .initialized "SeamPull$Reader", .initialized "SeamPull$Panel", .initialized "SeamPull$Search", .initialized "SeamPull$Beforehand", .initialized "SeamPull$Asks", .initialized "SeamPull$Plan", .initialized "SeamPullModel", .initialized "java/lang/System", .initialized "java/lang/String", .initialized "java/lang/StringLatin1", .initialized "jdk/internal/util/Preconditions", .initialized "java/lang/StringUTF16", .initialized "java/lang/Math", .initialized "java/lang/Integer", .classLink "SeamPullLaw" 7 "SeamPull", .instantiable "SeamPull" 16, .methodLink "SeamPullLaw" 9 ⟨"SeamPull", "<init>", "()V"⟩, .instanceMethod ⟨"SeamPull", "<init>", "()V"⟩, .code ⟨"SeamPull", "<init>", "()V"⟩ prog_1_method_1_code 1 (none : Option Jvm.ClassFile.FieldType), .methodLink "SeamPull" 1 ⟨"java/lang/Object", "<init>", "()V"⟩, .instanceMethod ⟨"java/lang/Object", "<init>", "()V"⟩, .code ⟨"java/lang/Object", "<init>", "()V"⟩ object_method_1_code 1 (none : Option Jvm.ClassFile.FieldType), .classLink "SeamPull" 7 "SeamPull$Shelf", .instantiable "SeamPull$Shelf" 3, .methodLink "SeamPull" 9 ⟨"SeamPull$Shelf", "<init>", "()V"⟩, .instanceMethod ⟨"SeamPull$Shelf", "<init>", "()V"⟩, .code ⟨"SeamPull$Shelf", "<init>", "()V"⟩ prog_8_method_1_code 1 (none : Option Jvm.ClassFile.FieldType), .methodLink "SeamPull$Shelf" 3 ⟨"java/lang/Object", "<init>", "()V"⟩, .classLink "SeamPull$Shelf" 18 "[[I", .methodLink "SeamPull$Shelf" 23 ⟨"java/util/Arrays", "fill", "([II)V"⟩, .static ⟨"java/util/Arrays", "fill", "([II)V"⟩, .code ⟨"java/util/Arrays", "fill", "([II)V"⟩ prog_18_method_103_code 4 (none : Option Jvm.ClassFile.FieldType), .fieldLink "SeamPull$Shelf" 9 "SeamPull$Shelf" "lanes" "[I", .fieldLink "SeamPull$Shelf" 15 "SeamPull$Shelf" "sizes" "[I", .fieldLink "SeamPull$Shelf" 20 "SeamPull$Shelf" "items" "[[I", .laysFinal "SeamPull$Shelf" "SeamPull$Shelf" "lanes" "[I", .laysFinal "SeamPull$Shelf" "SeamPull$Shelf" "sizes" "[I", .laysFinal "SeamPull$Shelf" "SeamPull$Shelf" "items" "[[I", .arrayClass .int, .classLink "SeamPull" 16 "SeamPull$Tape", .instantiable "SeamPull$Tape" 5, .instanceMethod ⟨"SeamPull$Tape", "<init>", "()V"⟩, .code ⟨"SeamPull$Tape", "<init>", "()V"⟩ prog_9_method_1_code 1 (none : Option Jvm.ClassFile.FieldType), .methodLink "SeamPull$Tape" 3 ⟨"java/lang/Object", "<init>", "()V"⟩, .fieldLink "SeamPull$Tape" 9 "SeamPull$Tape" "bytes" "[B", .fieldLink "SeamPull$Tape" 15 "SeamPull$Tape" "size" "I", .fieldLink "SeamPull$Tape" 19 "SeamPull$Tape" "start" "I", .fieldLink "SeamPull$Tape" 22 "SeamPull$Tape" "end" "I", .fieldLink "SeamPull$Tape" 25 "SeamPull$Tape" "sort" "I", .laysFinal "SeamPull$Tape" "SeamPull$Tape" "bytes" "[B", .lays "SeamPull$Tape" "SeamPull$Tape" "size" "I", .lays "SeamPull$Tape" "SeamPull$Tape" "start" "I", .lays "SeamPull$Tape" "SeamPull$Tape" "end" "I", .lays "SeamPull$Tape" "SeamPull$Tape" "sort" "I", .arrayClass .byte]
set_option maxRecDepth 100000 in
theorem bgt_1 : ∀ w ∈ BG_1, w ∈ lw_tbl := bg_in [64, 65, 66, 67, 68, 69, 70, 71, 72, 73, 74, 75, 76, 77, 78, 79, 80, 81, 82, 83, 84, 85, 86, 87, 88, 89, 90, 91, 92, 93, 94, 95, 96, 97, 98, 99, 100, 101, 103, 104, 105, 106, 107, 108, 109, 111, 113, 116, 117, 118, 120, 121, 122, 123, 124, 126, 127, 128, 129, 131, 133, 135, 137, 140] (by decide +kernel)
theorem bgg_1 : BG_1.all goodWord = true := by decide +kernel
def BG_2 : List Cond := [.classLink "SeamPull" 23 "SeamPull$Reader", .instantiable "SeamPull$Reader" 2, .methodLink "SeamPull" 25 ⟨"SeamPull$Reader", "<init>", "(LSeamPull$Tape;)V"⟩, .instanceMethod ⟨"SeamPull$Reader", "<init>", "(LSeamPull$Tape;)V"⟩, .code ⟨"SeamPull$Reader", "<init>", "(LSeamPull$Tape;)V"⟩ prog_6_method_1_code 2 (none : Option Jvm.ClassFile.FieldType), .methodLink "SeamPull$Reader" 3 ⟨"java/lang/Object", "<init>", "()V"⟩, .fieldLink "SeamPull$Reader" 15 "SeamPull$Reader" "tape" "LSeamPull$Tape;", .fieldLink "SeamPull$Reader" 9 "SeamPull$Reader" "taken" "I", .laysFinal "SeamPull$Reader" "SeamPull$Reader" "tape" "LSeamPull$Tape;", .lays "SeamPull$Reader" "SeamPull$Reader" "taken" "I", .classLink "SeamPull" 42 "SeamPull$Panel", .instantiable "SeamPull$Panel" 10, .instanceMethod ⟨"SeamPull$Panel", "<init>", "()V"⟩, .code ⟨"SeamPull$Panel", "<init>", "()V"⟩ prog_4_method_1_code 1 (none : Option Jvm.ClassFile.FieldType), .methodLink "SeamPull$Panel" 3 ⟨"java/lang/Object", "<init>", "()V"⟩, .fieldLink "SeamPull$Panel" 9 "SeamPull$Panel" "heat" "[I", .fieldLink "SeamPull$Panel" 15 "SeamPull$Panel" "heatTime" "[I", .fieldLink "SeamPull$Panel" 18 "SeamPull$Panel" "hold" "[I", .fieldLink "SeamPull$Panel" 21 "SeamPull$Panel" "bend" "[I", .fieldLink "SeamPull$Panel" 24 "SeamPull$Panel" "spring" "[I", .fieldLink "SeamPull$Panel" 27 "SeamPull$Panel" "shrunk" "[I", .fieldLink "SeamPull$Panel" 30 "SeamPull$Panel" "clampBits" "I", .fieldLink "SeamPull$Panel" 34 "SeamPull$Panel" "cells" "I", .fieldLink "SeamPull$Panel" 37 "SeamPull$Panel" "minutes" "I", .fieldLink "SeamPull$Panel" 40 "SeamPull$Panel" "allShrunk" "I", .laysFinal "SeamPull$Panel" "SeamPull$Panel" "heat" "[I", .laysFinal "SeamPull$Panel" "SeamPull$Panel" "heatTime" "[I", .laysFinal "SeamPull$Panel" "SeamPull$Panel" "hold" "[I", .laysFinal "SeamPull$Panel" "SeamPull$Panel" "bend" "[I", .laysFinal "SeamPull$Panel" "SeamPull$Panel" "spring" "[I", .laysFinal "SeamPull$Panel" "SeamPull$Panel" "shrunk" "[I", .lays "SeamPull$Panel" "SeamPull$Panel" "clampBits" "I", .lays "SeamPull$Panel" "SeamPull$Panel" "cells" "I", .lays "SeamPull$Panel" "SeamPull$Panel" "minutes" "I", .lays "SeamPull$Panel" "SeamPull$Panel" "allShrunk" "I", .classLink "SeamPull" 52 "SeamPull$Search", .instantiable "SeamPull$Search" 7, .methodLink "SeamPull" 54 ⟨"SeamPull$Search", "<init>", "()V"⟩, .instanceMethod ⟨"SeamPull$Search", "<init>", "()V"⟩, .code ⟨"SeamPull$Search", "<init>", "()V"⟩ prog_7_method_1_code 2 (none : Option Jvm.ClassFile.FieldType), .methodLink "SeamPull$Search" 3 ⟨"java/lang/Object", "<init>", "()V"⟩, .classLink "SeamPull$Search" 9 "SeamPull$Panel", .fieldLink "SeamPull$Search" 11 "SeamPull$Search" "panels" "[LSeamPull$Panel;", .fieldLink "SeamPull$Search" 17 "SeamPull$Search" "tried" "[I", .fieldLink "SeamPull$Search" 21 "SeamPull$Search" "nearest" "[I", .fieldLink "SeamPull$Search" 24 "SeamPull$Search" "ways" "[I", .fieldLink "SeamPull$Search" 27 "SeamPull$Search" "known" "Z", .fieldLink "SeamPull$Search" 31 "SeamPull$Search" "fits" "Z", .fieldLink "SeamPull$Search" 34 "SeamPull$Search" "leastOff" "I", .laysFinal "SeamPull$Search" "SeamPull$Search" "panels" "[LSeamPull$Panel;", .laysFinal "SeamPull$Search" "SeamPull$Search" "tried" "[I", .laysFinal "SeamPull$Search" "SeamPull$Search" "nearest" "[I", .laysFinal "SeamPull$Search" "SeamPull$Search" "ways" "[I", .lays "SeamPull$Search" "SeamPull$Search" "known" "Z", .lays "SeamPull$Search" "SeamPull$Search" "fits" "Z", .lays "SeamPull$Search" "SeamPull$Search" "leastOff" "I", .classLink "SeamPull" 59 "SeamPull$Beforehand", .instantiable "SeamPull$Beforehand" 3, .instanceMethod ⟨"SeamPull$Beforehand", "<init>", "()V"⟩, .code ⟨"SeamPull$Beforehand", "<init>", "()V"⟩ prog_3_method_1_code 1 (none : Option Jvm.ClassFile.FieldType), .methodLink "SeamPull$Beforehand" 3 ⟨"java/lang/Object", "<init>", "()V"⟩, .fieldLink "SeamPull$Beforehand" 9 "SeamPull$Beforehand" "bends" "[I", .fieldLink "SeamPull$Beforehand" 15 "SeamPull$Beforehand" "alike" "[I", .fieldLink "SeamPull$Beforehand" 18 "SeamPull$Beforehand" "known" "Z"]
set_option maxRecDepth 100000 in
theorem bgt_2 : ∀ w ∈ BG_2, w ∈ lw_tbl := bg_in [141, 142, 143, 144, 145, 146, 147, 148, 149, 151, 154, 155, 157, 158, 159, 160, 161, 162, 164, 167, 168, 169, 170, 172, 174, 175, 177, 179, 181, 183, 185, 187, 189, 191, 193, 196, 197, 198, 199, 200, 201, 202, 205, 206, 207, 209, 210, 211, 213, 215, 217, 219, 221, 223, 225, 227, 230, 231, 233, 234, 235, 236, 238, 239] (by decide +kernel)
theorem bgg_2 : BG_2.all goodWord = true := by decide +kernel
def BG_3 : List Cond := [.laysFinal "SeamPull$Beforehand" "SeamPull$Beforehand" "bends" "[I", .laysFinal "SeamPull$Beforehand" "SeamPull$Beforehand" "alike" "[I", .lays "SeamPull$Beforehand" "SeamPull$Beforehand" "known" "Z", .classLink "SeamPull" 66 "SeamPull$Asks", .instantiable "SeamPull$Asks" 2, .instanceMethod ⟨"SeamPull$Asks", "<init>", "()V"⟩, .code ⟨"SeamPull$Asks", "<init>", "()V"⟩ prog_2_method_1_code 1 (none : Option Jvm.ClassFile.FieldType), .methodLink "SeamPull$Asks" 3 ⟨"java/lang/Object", "<init>", "()V"⟩, .fieldLink "SeamPull$Asks" 11 "SeamPull$Asks" "begun" "[I", .fieldLink "SeamPull$Asks" 15 "SeamPull$Asks" "many" "I", .laysFinal "SeamPull$Asks" "SeamPull$Asks" "begun" "[I", .lays "SeamPull$Asks" "SeamPull$Asks" "many" "I", .classLink "SeamPull" 73 "SeamPull$Plan", .instantiable "SeamPull$Plan" 10, .instanceMethod ⟨"SeamPull$Plan", "<init>", "()V"⟩, .code ⟨"SeamPull$Plan", "<init>", "()V"⟩ prog_5_method_1_code 1 (none : Option Jvm.ClassFile.FieldType), .methodLink "SeamPull$Plan" 3 ⟨"java/lang/Object", "<init>", "()V"⟩, .fieldLink "SeamPull$Plan" 9 "SeamPull$Plan" "cells" "I", .fieldLink "SeamPull$Plan" 15 "SeamPull$Plan" "seams" "I", .fieldLink "SeamPull$Plan" 18 "SeamPull$Plan" "acts" "I", .fieldLink "SeamPull$Plan" 21 "SeamPull$Plan" "befores" "I", .fieldLink "SeamPull$Plan" 24 "SeamPull$Plan" "actKind" "[I", .fieldLink "SeamPull$Plan" 28 "SeamPull$Plan" "actPlace" "[I", .fieldLink "SeamPull$Plan" 31 "SeamPull$Plan" "actStrength" "[I", .fieldLink "SeamPull$Plan" 34 "SeamPull$Plan" "actSeam" "[I", .fieldLink "SeamPull$Plan" 37 "SeamPull$Plan" "seamEnd" "[I", .fieldLink "SeamPull$Plan" 40 "SeamPull$Plan" "needs" "[I", .lays "SeamPull$Plan" "SeamPull$Plan" "cells" "I", .lays "SeamPull$Plan" "SeamPull$Plan" "seams" "I", .lays "SeamPull$Plan" "SeamPull$Plan" "acts" "I", .lays "SeamPull$Plan" "SeamPull$Plan" "befores" "I", .laysFinal "SeamPull$Plan" "SeamPull$Plan" "actKind" "[I", .laysFinal "SeamPull$Plan" "SeamPull$Plan" "actPlace" "[I", .laysFinal "SeamPull$Plan" "SeamPull$Plan" "actStrength" "[I", .laysFinal "SeamPull$Plan" "SeamPull$Plan" "actSeam" "[I", .laysFinal "SeamPull$Plan" "SeamPull$Plan" "seamEnd" "[I", .laysFinal "SeamPull$Plan" "SeamPull$Plan" "needs" "[I", .fieldLink "SeamPull" 10 "SeamPull" "shelf" "LSeamPull$Shelf;", .fieldLink "SeamPull" 19 "SeamPull" "tape" "LSeamPull$Tape;", .fieldLink "SeamPull" 28 "SeamPull" "reader" "LSeamPull$Reader;", .fieldLink "SeamPull" 32 "SeamPull" "setTo" "[I", .fieldLink "SeamPull" 36 "SeamPull" "order" "[I", .fieldLink "SeamPull" 39 "SeamPull" "row" "[I", .fieldLink "SeamPull" 45 "SeamPull" "latest" "LSeamPull$Panel;", .fieldLink "SeamPull" 49 "SeamPull" "trial" "LSeamPull$Panel;", .fieldLink "SeamPull" 55 "SeamPull" "search" "LSeamPull$Search;", .fieldLink "SeamPull" 62 "SeamPull" "ahead" "LSeamPull$Beforehand;", .fieldLink "SeamPull" 69 "SeamPull" "asks" "LSeamPull$Asks;", .fieldLink "SeamPull" 76 "SeamPull" "plan" "LSeamPull$Plan;", .fieldLink "SeamPull" 80 "SeamPull" "draft" "LSeamPull$Plan;", .fieldLink "SeamPull" 83 "SeamPull" "ran" "Z", .fieldLink "SeamPull" 87 "SeamPull" "latestFault" "I", .fieldLink "SeamPull" 91 "SeamPull" "latestFinding" "I", .laysFinal "SeamPull" "SeamPull" "shelf" "LSeamPull$Shelf;", .laysFinal "SeamPull" "SeamPull" "tape" "LSeamPull$Tape;", .laysFinal "SeamPull" "SeamPull" "reader" "LSeamPull$Reader;", .laysFinal "SeamPull" "SeamPull" "setTo" "[I", .laysFinal "SeamPull" "SeamPull" "order" "[I", .laysFinal "SeamPull" "SeamPull" "row" "[I", .laysFinal "SeamPull" "SeamPull" "latest" "LSeamPull$Panel;", .laysFinal "SeamPull" "SeamPull" "trial" "LSeamPull$Panel;", .laysFinal "SeamPull" "SeamPull" "search" "LSeamPull$Search;", .laysFinal "SeamPull" "SeamPull" "ahead" "LSeamPull$Beforehand;", .laysFinal "SeamPull" "SeamPull" "asks" "LSeamPull$Asks;"]
set_option maxRecDepth 100000 in
theorem bgt_3 : ∀ w ∈ BG_3, w ∈ lw_tbl := bg_in [240, 242, 244, 247, 248, 250, 251, 252, 253, 254, 255, 257, 260, 261, 263, 264, 265, 266, 271, 276, 279, 282, 285, 288, 292, 294, 295, 296, 298, 300, 302, 304, 306, 308, 310, 312, 314, 317, 318, 319, 320, 321, 322, 323, 324, 325, 326, 327, 328, 329, 330, 331, 332, 333, 335, 337, 339, 341, 343, 345, 347, 349, 351, 353] (by decide +kernel)
theorem bgg_3 : BG_3.all goodWord = true := by decide +kernel
def BG_4 : List Cond := [.lays "SeamPull" "SeamPull" "plan" "LSeamPull$Plan;", .lays "SeamPull" "SeamPull" "draft" "LSeamPull$Plan;", .lays "SeamPull" "SeamPull" "ran" "Z", .lays "SeamPull" "SeamPull" "latestFault" "I", .lays "SeamPull" "SeamPull" "latestFinding" "I", .methodLink "SeamPullLaw" 13 ⟨"SeamPull", "sheet", "(III)I"⟩, .instanceMethod ⟨"SeamPull", "sheet", "(III)I"⟩, .selects "SeamPull" ⟨"SeamPull", "sheet", "(III)I"⟩ ⟨"SeamPull", "sheet", "(III)I"⟩, .code ⟨"SeamPull", "sheet", "(III)I"⟩ prog_1_method_2_code 4 (some .int), .methodLink "SeamPull" 94 ⟨"SeamPull$Shelf", "hasNumber", "(I)Z"⟩, .instanceMethod ⟨"SeamPull$Shelf", "hasNumber", "(I)Z"⟩, .selects "SeamPull$Shelf" ⟨"SeamPull$Shelf", "hasNumber", "(I)Z"⟩ ⟨"SeamPull$Shelf", "hasNumber", "(I)Z"⟩, .code ⟨"SeamPull$Shelf", "hasNumber", "(I)Z"⟩ prog_8_method_2_code 2 (some .boolean), .constant "SeamPull" 98 (-1000001), .methodLink "SeamPull" 99 ⟨"SeamPull", "found", "(I)I"⟩, .instanceMethod ⟨"SeamPull", "found", "(I)I"⟩, .code ⟨"SeamPull", "found", "(I)I"⟩ prog_1_method_37_code 2 (some .int), .constant "SeamPull" 338 (-1000010), .methodLink "SeamPull" 103 ⟨"SeamPull$Shelf", "lay", "(III)V"⟩, .instanceMethod ⟨"SeamPull$Shelf", "lay", "(III)V"⟩, .selects "SeamPull$Shelf" ⟨"SeamPull$Shelf", "lay", "(III)V"⟩ ⟨"SeamPull$Shelf", "lay", "(III)V"⟩, .code ⟨"SeamPull$Shelf", "lay", "(III)V"⟩ prog_8_method_7_code 4 (none : Option Jvm.ClassFile.FieldType), .methodLink "SeamPull" 107 ⟨"SeamPull", "fine", "(I)I"⟩, .instanceMethod ⟨"SeamPull", "fine", "(I)I"⟩, .code ⟨"SeamPull", "fine", "(I)I"⟩ prog_1_method_38_code 2 (some .int), .methodLink "SeamPullLaw" 18 ⟨"SeamPull", "set", "(III)I"⟩, .instanceMethod ⟨"SeamPull", "set", "(III)I"⟩, .selects "SeamPull" ⟨"SeamPull", "set", "(III)I"⟩ ⟨"SeamPull", "set", "(III)I"⟩, .code ⟨"SeamPull", "set", "(III)I"⟩ prog_1_method_3_code 5 (some .int), .methodLink "SeamPull" 110 ⟨"SeamPull$Shelf", "findingAt", "(III)I"⟩, .instanceMethod ⟨"SeamPull$Shelf", "findingAt", "(III)I"⟩, .selects "SeamPull$Shelf" ⟨"SeamPull$Shelf", "findingAt", "(III)I"⟩ ⟨"SeamPull$Shelf", "findingAt", "(III)I"⟩, .code ⟨"SeamPull$Shelf", "findingAt", "(III)I"⟩ prog_8_method_5_code 4 (some .int), .methodLink "SeamPull$Shelf" 29 ⟨"SeamPull$Shelf", "isMissing", "(I)Z"⟩, .instanceMethod ⟨"SeamPull$Shelf", "isMissing", "(I)Z"⟩, .selects "SeamPull$Shelf" ⟨"SeamPull$Shelf", "isMissing", "(I)Z"⟩ ⟨"SeamPull$Shelf", "isMissing", "(I)Z"⟩, .code ⟨"SeamPull$Shelf", "isMissing", "(I)Z"⟩ prog_8_method_3_code 2 (some .boolean), .methodLink "SeamPull" 114 ⟨"SeamPull$Shelf", "put", "(III)I"⟩, .instanceMethod ⟨"SeamPull$Shelf", "put", "(III)I"⟩, .selects "SeamPull$Shelf" ⟨"SeamPull$Shelf", "put", "(III)I"⟩ ⟨"SeamPull$Shelf", "put", "(III)I"⟩, .code ⟨"SeamPull$Shelf", "put", "(III)I"⟩ prog_8_method_9_code 4 (some .int), .methodLink "SeamPull$Shelf" 33 ⟨"SeamPull$Shelf", "narrowed", "(II)I"⟩, .static ⟨"SeamPull$Shelf", "narrowed", "(II)I"⟩, .code ⟨"SeamPull$Shelf", "narrowed", "(II)I"⟩ prog_8_method_10_code 2 (some .int), .methodLink "SeamPullLaw" 22 ⟨"SeamPull", "copy", "(IIIII)I"⟩, .instanceMethod ⟨"SeamPull", "copy", "(IIIII)I"⟩, .selects "SeamPull" ⟨"SeamPull", "copy", "(IIIII)I"⟩ ⟨"SeamPull", "copy", "(IIIII)I"⟩, .code ⟨"SeamPull", "copy", "(IIIII)I"⟩ prog_1_method_4_code 7 (some .int), .methodLink "SeamPull" 117 ⟨"SeamPull$Shelf", "findingBetween", "(II)I"⟩, .instanceMethod ⟨"SeamPull$Shelf", "findingBetween", "(II)I"⟩, .selects "SeamPull$Shelf" ⟨"SeamPull$Shelf", "findingBetween", "(II)I"⟩ ⟨"SeamPull$Shelf", "findingBetween", "(II)I"⟩, .code ⟨"SeamPull$Shelf", "findingBetween", "(II)I"⟩ prog_8_method_6_code 3 (some .int), .methodLink "SeamPull" 121 ⟨"SeamPull$Shelf", "carry", "(IIIII)V"⟩, .instanceMethod ⟨"SeamPull$Shelf", "carry", "(IIIII)V"⟩, .selects "SeamPull$Shelf" ⟨"SeamPull$Shelf", "carry", "(IIIII)V"⟩ ⟨"SeamPull$Shelf", "carry", "(IIIII)V"⟩, .code ⟨"SeamPull$Shelf", "carry", "(IIIII)V"⟩ prog_8_method_11_code 6 (none : Option Jvm.ClassFile.FieldType), .methodLink "SeamPull$Shelf" 37 ⟨"java/lang/System", "arraycopy", "(Ljava/lang/Object;ILjava/lang/Object;II)V"⟩, .static ⟨"java/lang/System", "arraycopy", "(Ljava/lang/Object;ILjava/lang/Object;II)V"⟩, .native ⟨"java/lang/System", "arraycopy", "(Ljava/lang/Object;ILjava/lang/Object;II)V"⟩, .methodLink "SeamPullLaw" 27 ⟨"SeamPull", "drop", "(I)I"⟩, .instanceMethod ⟨"SeamPull", "drop", "(I)I"⟩, .selects "SeamPull" ⟨"SeamPull", "drop", "(I)I"⟩ ⟨"SeamPull", "drop", "(I)I"⟩, .code ⟨"SeamPull", "drop", "(I)I"⟩ prog_1_method_5_code 2 (some .int), .methodLink "SeamPull" 125 ⟨"SeamPull$Shelf", "isMissing", "(I)Z"⟩]
set_option maxRecDepth 100000 in
theorem bgt_4 : ∀ w ∈ BG_4, w ∈ lw_tbl := bg_in [355, 357, 359, 361, 363, 366, 367, 368, 369, 370, 371, 372, 373, 374, 375, 377, 378, 379, 380, 381, 382, 383, 384, 386, 387, 388, 389, 390, 391, 392, 393, 394, 395, 396, 397, 398, 399, 400, 401, 402, 403, 404, 405, 406, 407, 408, 409, 410, 411, 412, 413, 414, 415, 416, 417, 418, 419, 420, 421, 422, 423, 424, 425, 426] (by decide +kernel)
theorem bgg_4 : BG_4.all goodWord = true := by decide +kernel
def BG_5 : List Cond := [.methodLink "SeamPull" 128 ⟨"SeamPull$Shelf", "takeAway", "(I)I"⟩, .instanceMethod ⟨"SeamPull$Shelf", "takeAway", "(I)I"⟩, .selects "SeamPull$Shelf" ⟨"SeamPull$Shelf", "takeAway", "(I)I"⟩ ⟨"SeamPull$Shelf", "takeAway", "(I)I"⟩, .code ⟨"SeamPull$Shelf", "takeAway", "(I)I"⟩ prog_8_method_8_code 3 (some .int), .methodLink "SeamPullLaw" 34 ⟨"SeamPull", "feed", "(JI)I"⟩, .instanceMethod ⟨"SeamPull", "feed", "(JI)I"⟩, .selects "SeamPull" ⟨"SeamPull", "feed", "(JI)I"⟩ ⟨"SeamPull", "feed", "(JI)I"⟩, .code ⟨"SeamPull", "feed", "(JI)I"⟩ prog_1_method_6_code 4 (some .int), .methodLink "SeamPull" 131 ⟨"SeamPull$Tape", "hasRoom", "(I)Z"⟩, .instanceMethod ⟨"SeamPull$Tape", "hasRoom", "(I)Z"⟩, .selects "SeamPull$Tape" ⟨"SeamPull$Tape", "hasRoom", "(I)Z"⟩ ⟨"SeamPull$Tape", "hasRoom", "(I)Z"⟩, .code ⟨"SeamPull$Tape", "hasRoom", "(I)Z"⟩ prog_9_method_2_code 2 (some .boolean), .constant "SeamPull" 134 (-1000003), .methodLink "SeamPull" 135 ⟨"SeamPull$Tape", "append", "(JI)I"⟩, .instanceMethod ⟨"SeamPull$Tape", "append", "(JI)I"⟩, .selects "SeamPull$Tape" ⟨"SeamPull$Tape", "append", "(JI)I"⟩ ⟨"SeamPull$Tape", "append", "(JI)I"⟩, .code ⟨"SeamPull$Tape", "append", "(JI)I"⟩ prog_9_method_3_code 5 (some .int), .methodLink "SeamPullLaw" 39 ⟨"SeamPull", "plan", "()I"⟩, .instanceMethod ⟨"SeamPull", "plan", "()I"⟩, .selects "SeamPull" ⟨"SeamPull", "plan", "()I"⟩ ⟨"SeamPull", "plan", "()I"⟩, .code ⟨"SeamPull", "plan", "()I"⟩ prog_1_method_7_code 4 (some .int), .methodLink "SeamPull" 139 ⟨"SeamPull$Reader", "readInto", "(LSeamPull$Plan;)I"⟩, .instanceMethod ⟨"SeamPull$Reader", "readInto", "(LSeamPull$Plan;)I"⟩, .selects "SeamPull$Reader" ⟨"SeamPull$Reader", "readInto", "(LSeamPull$Plan;)I"⟩ ⟨"SeamPull$Reader", "readInto", "(LSeamPull$Plan;)I"⟩, .code ⟨"SeamPull$Reader", "readInto", "(LSeamPull$Plan;)I"⟩ prog_6_method_2_code 4 (some .int), .methodLink "SeamPull$Reader" 19 ⟨"SeamPull$Plan", "clear", "()V"⟩, .instanceMethod ⟨"SeamPull$Plan", "clear", "()V"⟩, .selects "SeamPull$Plan" ⟨"SeamPull$Plan", "clear", "()V"⟩ ⟨"SeamPull$Plan", "clear", "()V"⟩, .code ⟨"SeamPull$Plan", "clear", "()V"⟩ prog_5_method_2_code 1 (none : Option Jvm.ClassFile.FieldType), .methodLink "SeamPull$Plan" 43 ⟨"java/util/Arrays", "fill", "([II)V"⟩, .methodLink "SeamPull$Reader" 24 ⟨"SeamPull$Tape", "toFirst", "()V"⟩, .instanceMethod ⟨"SeamPull$Tape", "toFirst", "()V"⟩, .selects "SeamPull$Tape" ⟨"SeamPull$Tape", "toFirst", "()V"⟩ ⟨"SeamPull$Tape", "toFirst", "()V"⟩, .code ⟨"SeamPull$Tape", "toFirst", "()V"⟩ prog_9_method_6_code 1 (none : Option Jvm.ClassFile.FieldType), .methodLink "SeamPull$Tape" 28 ⟨"SeamPull$Tape", "toNext", "()V"⟩, .instanceMethod ⟨"SeamPull$Tape", "toNext", "()V"⟩, .selects "SeamPull$Tape" ⟨"SeamPull$Tape", "toNext", "()V"⟩ ⟨"SeamPull$Tape", "toNext", "()V"⟩, .code ⟨"SeamPull$Tape", "toNext", "()V"⟩ prog_9_method_7_code 1 (none : Option Jvm.ClassFile.FieldType), .methodLink "SeamPull$Tape" 31 ⟨"SeamPull$Tape", "sortOf", "(I)I"⟩, .static ⟨"SeamPull$Tape", "sortOf", "(I)I"⟩, .code ⟨"SeamPull$Tape", "sortOf", "(I)I"⟩ prog_9_method_8_code 1 (some .int), .methodLink "SeamPull$Reader" 29 ⟨"SeamPull$Reader", "takePanel", "(LSeamPull$Plan;)I"⟩, .instanceMethod ⟨"SeamPull$Reader", "takePanel", "(LSeamPull$Plan;)I"⟩, .code ⟨"SeamPull$Reader", "takePanel", "(LSeamPull$Plan;)I"⟩ prog_6_method_3_code 3 (some .int), .methodLink "SeamPull$Reader" 33 ⟨"SeamPull$Tape", "atWord", "(I)Z"⟩, .instanceMethod ⟨"SeamPull$Tape", "atWord", "(I)Z"⟩, .selects "SeamPull$Tape" ⟨"SeamPull$Tape", "atWord", "(I)Z"⟩ ⟨"SeamPull$Tape", "atWord", "(I)Z"⟩, .code ⟨"SeamPull$Tape", "atWord", "(I)Z"⟩ prog_9_method_12_code 2 (some .boolean), .methodLink "SeamPull$Tape" 73 ⟨"SeamPull$Tape", "spelling", "(I)Ljava/lang/String;"⟩, .static ⟨"SeamPull$Tape", "spelling", "(I)Ljava/lang/String;"⟩, .code ⟨"SeamPull$Tape", "spelling", "(I)Ljava/lang/String;"⟩ prog_9_method_10_code 1 (Option.some (.object "java/lang/String")), .methodLink "SeamPull$Tape" 77 ⟨"SeamPull$Tape", "spells", "(Ljava/lang/String;)Z"⟩, .instanceMethod ⟨"SeamPull$Tape", "spells", "(Ljava/lang/String;)Z"⟩, .code ⟨"SeamPull$Tape", "spells", "(Ljava/lang/String;)Z"⟩ prog_9_method_9_code 3 (some .boolean), .methodLink "SeamPull$Tape" 35 ⟨"java/lang/String", "length", "()I"⟩, .instanceMethod ⟨"java/lang/String", "length", "()I"⟩, .selects "java/lang/String" ⟨"java/lang/String", "length", "()I"⟩ ⟨"java/lang/String", "length", "()I"⟩, .code ⟨"java/lang/String", "length", "()I"⟩ prog_14_method_54_code 1 (some .int), .methodLink "java/lang/String" 335 ⟨"java/lang/String", "coder", "()B"⟩, .instanceMethod ⟨"java/lang/String", "coder", "()B"⟩, .selects "java/lang/String" ⟨"java/lang/String", "coder", "()B"⟩ ⟨"java/lang/String", "coder", "()B"⟩, .code ⟨"java/lang/String", "coder", "()B"⟩ prog_14_method_152_code 1 (some .byte), .fieldLink "java/lang/String" 38 "java/lang/String" "COMPACT_STRINGS" "Z", .methodLink "SeamPull$Tape" 41 ⟨"java/lang/String", "charAt", "(I)C"⟩]
set_option maxRecDepth 100000 in
theorem bgt_5 : ∀ w ∈ BG_5, w ∈ lw_tbl := bg_in [427, 428, 429, 430, 431, 432, 433, 434, 435, 436, 437, 438, 439, 440, 441, 442, 443, 444, 445, 446, 447, 448, 449, 450, 451, 452, 453, 454, 455, 456, 457, 458, 459, 460, 461, 462, 463, 464, 465, 466, 467, 468, 470, 471, 472, 473, 474, 475, 476, 477, 478, 493, 495, 496, 497, 498, 499, 500, 501, 502, 503, 504, 505, 507] (by decide +kernel)
theorem bgg_5 : BG_5.all goodWord = true := by decide +kernel
def BG_6 : List Cond := [.instanceMethod ⟨"java/lang/String", "charAt", "(I)C"⟩, .selects "java/lang/String" ⟨"java/lang/String", "charAt", "(I)C"⟩ ⟨"java/lang/String", "charAt", "(I)C"⟩, .code ⟨"java/lang/String", "charAt", "(I)C"⟩ prog_14_method_56_code 2 (some .char), .methodLink "java/lang/String" 492 ⟨"java/lang/String", "isLatin1", "()Z"⟩, .instanceMethod ⟨"java/lang/String", "isLatin1", "()Z"⟩, .selects "java/lang/String" ⟨"java/lang/String", "isLatin1", "()Z"⟩ ⟨"java/lang/String", "isLatin1", "()Z"⟩, .code ⟨"java/lang/String", "isLatin1", "()Z"⟩ prog_14_method_154_code 1 (some .boolean), .methodLink "java/lang/String" 495 ⟨"java/lang/StringLatin1", "charAt", "([BI)C"⟩, .static ⟨"java/lang/StringLatin1", "charAt", "([BI)C"⟩, .code ⟨"java/lang/StringLatin1", "charAt", "([BI)C"⟩ prog_15_method_2_code 2 (some .char), .methodLink "java/lang/StringLatin1" 9 ⟨"java/lang/String", "checkIndex", "(II)V"⟩, .static ⟨"java/lang/String", "checkIndex", "(II)V"⟩, .code ⟨"java/lang/String", "checkIndex", "(II)V"⟩ prog_14_method_155_code 2 (none : Option Jvm.ClassFile.FieldType), .fieldLink "java/lang/String" 1053 "jdk/internal/util/Preconditions" "SIOOBE_FORMATTER" "Ljava/util/function/BiFunction;", .methodLink "java/lang/String" 1059 ⟨"jdk/internal/util/Preconditions", "checkIndex", "(IILjava/util/function/BiFunction;)I"⟩, .static ⟨"jdk/internal/util/Preconditions", "checkIndex", "(IILjava/util/function/BiFunction;)I"⟩, .code ⟨"jdk/internal/util/Preconditions", "checkIndex", "(IILjava/util/function/BiFunction;)I"⟩ prog_19_method_11_code 3 (some .int), .methodLink "java/lang/String" 498 ⟨"java/lang/StringUTF16", "charAt", "([BI)C"⟩, .static ⟨"java/lang/StringUTF16", "charAt", "([BI)C"⟩, .code ⟨"java/lang/StringUTF16", "charAt", "([BI)C"⟩ prog_16_method_83_code 2 (some .char), .methodLink "java/lang/StringUTF16" 67 ⟨"java/lang/StringUTF16", "checkIndex", "(I[B)V"⟩, .static ⟨"java/lang/StringUTF16", "checkIndex", "(I[B)V"⟩, .code ⟨"java/lang/StringUTF16", "checkIndex", "(I[B)V"⟩ prog_16_method_91_code 2 (none : Option Jvm.ClassFile.FieldType), .methodLink "java/lang/StringUTF16" 48 ⟨"java/lang/StringUTF16", "length", "([B)I"⟩, .static ⟨"java/lang/StringUTF16", "length", "([B)I"⟩, .code ⟨"java/lang/StringUTF16", "length", "([B)I"⟩ prog_16_method_6_code 1 (some .int), .methodLink "java/lang/StringUTF16" 414 ⟨"java/lang/String", "checkIndex", "(II)V"⟩, .methodLink "java/lang/StringUTF16" 71 ⟨"java/lang/StringUTF16", "getChar", "([BI)C"⟩, .static ⟨"java/lang/StringUTF16", "getChar", "([BI)C"⟩, .code ⟨"java/lang/StringUTF16", "getChar", "([BI)C"⟩ prog_16_method_5_code 2 (some .char), .fieldLink "java/lang/StringUTF16" 44 "java/lang/StringUTF16" "$assertionsDisabled" "Z", .fieldLink "java/lang/StringUTF16" 59 "java/lang/StringUTF16" "HI_BYTE_SHIFT" "I", .fieldLink "java/lang/StringUTF16" 63 "java/lang/StringUTF16" "LO_BYTE_SHIFT" "I", .methodLink "SeamPull$Reader" 47 ⟨"SeamPull$Tape", "toNext", "()V"⟩, .methodLink "SeamPull$Reader" 50 ⟨"SeamPull$Reader", "takeNumber", "(II)I"⟩, .instanceMethod ⟨"SeamPull$Reader", "takeNumber", "(II)I"⟩, .code ⟨"SeamPull$Reader", "takeNumber", "(II)I"⟩ prog_6_method_7_code 3 (some .int), .methodLink "SeamPull$Reader" 84 ⟨"SeamPull$Tape", "atNumber", "()Z"⟩, .instanceMethod ⟨"SeamPull$Tape", "atNumber", "()Z"⟩, .selects "SeamPull$Tape" ⟨"SeamPull$Tape", "atNumber", "()Z"⟩ ⟨"SeamPull$Tape", "atNumber", "()Z"⟩, .code ⟨"SeamPull$Tape", "atNumber", "()Z"⟩ prog_9_method_14_code 1 (some .boolean), .methodLink "SeamPull$Reader" 87 ⟨"SeamPull$Tape", "numberHere", "()I"⟩, .instanceMethod ⟨"SeamPull$Tape", "numberHere", "()I"⟩, .selects "SeamPull$Tape" ⟨"SeamPull$Tape", "numberHere", "()I"⟩ ⟨"SeamPull$Tape", "numberHere", "()I"⟩, .code ⟨"SeamPull$Tape", "numberHere", "()I"⟩ prog_9_method_15_code 3 (some .int), .methodLink "SeamPull$Reader" 57 ⟨"SeamPull$Reader", "takeSign", "()I"⟩, .instanceMethod ⟨"SeamPull$Reader", "takeSign", "()I"⟩, .code ⟨"SeamPull$Reader", "takeSign", "()I"⟩ prog_6_method_8_code 1 (some .int), .methodLink "SeamPull$Reader" 94 ⟨"SeamPull$Tape", "atSign", "()Z"⟩, .instanceMethod ⟨"SeamPull$Tape", "atSign", "()Z"⟩, .selects "SeamPull$Tape" ⟨"SeamPull$Tape", "atSign", "()Z"⟩ ⟨"SeamPull$Tape", "atSign", "()Z"⟩, .code ⟨"SeamPull$Tape", "atSign", "()Z"⟩ prog_9_method_16_code 1 (some .boolean), .methodLink "SeamPull$Reader" 37 ⟨"SeamPull$Reader", "takeSeam", "(LSeamPull$Plan;)I"⟩, .instanceMethod ⟨"SeamPull$Reader", "takeSeam", "(LSeamPull$Plan;)I"⟩, .code ⟨"SeamPull$Reader", "takeSeam", "(LSeamPull$Plan;)I"⟩ prog_6_method_4_code 5 (some .int), .methodLink "SeamPull$Reader" 64 ⟨"SeamPull$Tape", "actHere", "()I"⟩, .instanceMethod ⟨"SeamPull$Tape", "actHere", "()I"⟩, .selects "SeamPull$Tape" ⟨"SeamPull$Tape", "actHere", "()I"⟩ ⟨"SeamPull$Tape", "actHere", "()I"⟩, .code ⟨"SeamPull$Tape", "actHere", "()I"⟩ prog_9_method_13_code 2 (some .int), .methodLink "SeamPull$Tape" 81 ⟨"SeamPull$Tape", "atWord", "(I)Z"⟩, .methodLink "SeamPull$Reader" 67 ⟨"SeamPull$Reader", "takeAct", "(LSeamPull$Plan;I)I"⟩, .instanceMethod ⟨"SeamPull$Reader", "takeAct", "(LSeamPull$Plan;I)I"⟩, .code ⟨"SeamPull$Reader", "takeAct", "(LSeamPull$Plan;I)I"⟩ prog_6_method_5_code 6 (some .int), .methodLink "SeamPull$Reader" 77 ⟨"SeamPull$Plan", "addAct", "(III)V"⟩]
set_option maxRecDepth 100000 in
theorem bgt_6 : ∀ w ∈ BG_6, w ∈ lw_tbl := bg_in [508, 509, 510, 511, 512, 513, 514, 515, 516, 517, 518, 519, 520, 521, 523, 524, 525, 526, 527, 528, 529, 530, 531, 532, 533, 534, 535, 536, 537, 538, 539, 541, 543, 545, 546, 548, 549, 550, 551, 552, 553, 554, 555, 556, 557, 558, 560, 561, 562, 563, 564, 565, 566, 568, 569, 570, 571, 572, 573, 574, 575, 577, 578, 579] (by decide +kernel)
theorem bgg_6 : BG_6.all goodWord = true := by decide +kernel
def BG_7 : List Cond := [.instanceMethod ⟨"SeamPull$Plan", "addAct", "(III)V"⟩, .selects "SeamPull$Plan" ⟨"SeamPull$Plan", "addAct", "(III)V"⟩ ⟨"SeamPull$Plan", "addAct", "(III)V"⟩, .code ⟨"SeamPull$Plan", "addAct", "(III)V"⟩ prog_5_method_9_code 4 (none : Option Jvm.ClassFile.FieldType), .methodLink "SeamPull$Reader" 71 ⟨"SeamPull$Plan", "endSeam", "()V"⟩, .instanceMethod ⟨"SeamPull$Plan", "endSeam", "()V"⟩, .selects "SeamPull$Plan" ⟨"SeamPull$Plan", "endSeam", "()V"⟩ ⟨"SeamPull$Plan", "endSeam", "()V"⟩, .code ⟨"SeamPull$Plan", "endSeam", "()V"⟩ prog_5_method_10_code 1 (none : Option Jvm.ClassFile.FieldType), .methodLink "SeamPull$Reader" 40 ⟨"SeamPull$Reader", "takeBefore", "(LSeamPull$Plan;)I"⟩, .instanceMethod ⟨"SeamPull$Reader", "takeBefore", "(LSeamPull$Plan;)I"⟩, .code ⟨"SeamPull$Reader", "takeBefore", "(LSeamPull$Plan;)I"⟩ prog_6_method_6_code 4 (some .int), .methodLink "SeamPull$Reader" 90 ⟨"SeamPull$Plan", "addBefore", "(II)V"⟩, .instanceMethod ⟨"SeamPull$Plan", "addBefore", "(II)V"⟩, .selects "SeamPull$Plan" ⟨"SeamPull$Plan", "addBefore", "(II)V"⟩ ⟨"SeamPull$Plan", "addBefore", "(II)V"⟩, .code ⟨"SeamPull$Plan", "addBefore", "(II)V"⟩ prog_5_method_11_code 3 (none : Option Jvm.ClassFile.FieldType), .methodLink "SeamPull$Plan" 53 ⟨"SeamPull$Plan", "hasSeam", "(I)Z"⟩, .instanceMethod ⟨"SeamPull$Plan", "hasSeam", "(I)Z"⟩, .selects "SeamPull$Plan" ⟨"SeamPull$Plan", "hasSeam", "(I)Z"⟩ ⟨"SeamPull$Plan", "hasSeam", "(I)Z"⟩, .code ⟨"SeamPull$Plan", "hasSeam", "(I)Z"⟩ prog_5_method_5_code 2 (some .boolean), .methodLink "SeamPull$Reader" 43 ⟨"SeamPull$Tape", "atEnd", "()Z"⟩, .instanceMethod ⟨"SeamPull$Tape", "atEnd", "()Z"⟩, .selects "SeamPull$Tape" ⟨"SeamPull$Tape", "atEnd", "()Z"⟩ ⟨"SeamPull$Tape", "atEnd", "()Z"⟩, .code ⟨"SeamPull$Tape", "atEnd", "()Z"⟩ prog_9_method_11_code 1 (some .boolean), .methodLink "SeamPull" 143 ⟨"SeamPull$Tape", "tokenPlace", "()I"⟩, .instanceMethod ⟨"SeamPull$Tape", "tokenPlace", "()I"⟩, .selects "SeamPull$Tape" ⟨"SeamPull$Tape", "tokenPlace", "()I"⟩ ⟨"SeamPull$Tape", "tokenPlace", "()I"⟩, .code ⟨"SeamPull$Tape", "tokenPlace", "()I"⟩ prog_9_method_5_code 1 (some .int), .methodLink "SeamPull" 147 ⟨"SeamPull$Tape", "empty", "()V"⟩, .instanceMethod ⟨"SeamPull$Tape", "empty", "()V"⟩, .selects "SeamPull$Tape" ⟨"SeamPull$Tape", "empty", "()V"⟩ ⟨"SeamPull$Tape", "empty", "()V"⟩, .code ⟨"SeamPull$Tape", "empty", "()V"⟩ prog_9_method_4_code 1 (none : Option Jvm.ClassFile.FieldType), .constant "SeamPull" 150 (-1000100), .methodLink "SeamPull" 151 ⟨"SeamPull", "beginPlan", "()V"⟩, .instanceMethod ⟨"SeamPull", "beginPlan", "()V"⟩, .code ⟨"SeamPull", "beginPlan", "()V"⟩ prog_1_method_8_code 1 (none : Option Jvm.ClassFile.FieldType), .methodLink "SeamPull" 157 ⟨"java/util/Arrays", "fill", "([II)V"⟩, .fieldLink "SeamPull" 163 "SeamPull" "BY_NUMBERS" "[I", .methodLink "SeamPull" 166 ⟨"java/lang/System", "arraycopy", "(Ljava/lang/Object;ILjava/lang/Object;II)V"⟩, .methodLink "SeamPull" 175 ⟨"SeamPull$Panel", "begin", "(I[I)V"⟩, .instanceMethod ⟨"SeamPull$Panel", "begin", "(I[I)V"⟩, .selects "SeamPull$Panel" ⟨"SeamPull$Panel", "begin", "(I[I)V"⟩ ⟨"SeamPull$Panel", "begin", "(I[I)V"⟩, .code ⟨"SeamPull$Panel", "begin", "(I[I)V"⟩ prog_4_method_2_code 3 (none : Option Jvm.ClassFile.FieldType), .methodLink "SeamPull$Panel" 43 ⟨"java/lang/Math", "min", "(II)I"⟩, .static ⟨"java/lang/Math", "min", "(II)I"⟩, .code ⟨"java/lang/Math", "min", "(II)I"⟩ prog_13_method_69_code 2 (some .int), .methodLink "SeamPull$Panel" 49 ⟨"java/util/Arrays", "fill", "([II)V"⟩, .methodLink "SeamPull$Panel" 55 ⟨"java/lang/System", "arraycopy", "(Ljava/lang/Object;ILjava/lang/Object;II)V"⟩, .methodLink "SeamPull" 179 ⟨"SeamPull$Search", "forget", "()V"⟩, .instanceMethod ⟨"SeamPull$Search", "forget", "()V"⟩, .selects "SeamPull$Search" ⟨"SeamPull$Search", "forget", "()V"⟩ ⟨"SeamPull$Search", "forget", "()V"⟩, .code ⟨"SeamPull$Search", "forget", "()V"⟩ prog_7_method_2_code 1 (none : Option Jvm.ClassFile.FieldType), .methodLink "SeamPull" 182 ⟨"SeamPull$Beforehand", "forget", "()V"⟩, .instanceMethod ⟨"SeamPull$Beforehand", "forget", "()V"⟩, .selects "SeamPull$Beforehand" ⟨"SeamPull$Beforehand", "forget", "()V"⟩ ⟨"SeamPull$Beforehand", "forget", "()V"⟩, .code ⟨"SeamPull$Beforehand", "forget", "()V"⟩ prog_3_method_2_code 1 (none : Option Jvm.ClassFile.FieldType), .methodLink "SeamPullLaw" 44 ⟨"SeamPull", "fault", "()I"⟩, .instanceMethod ⟨"SeamPull", "fault", "()I"⟩, .selects "SeamPull" ⟨"SeamPull", "fault", "()I"⟩ ⟨"SeamPull", "fault", "()I"⟩, .code ⟨"SeamPull", "fault", "()I"⟩ prog_1_method_9_code 1 (some .int), .methodLink "SeamPullLaw" 48 ⟨"SeamPull", "act", "(II)I"⟩, .instanceMethod ⟨"SeamPull", "act", "(II)I"⟩, .selects "SeamPull" ⟨"SeamPull", "act", "(II)I"⟩ ⟨"SeamPull", "act", "(II)I"⟩, .code ⟨"SeamPull", "act", "(II)I"⟩ prog_1_method_10_code 3 (some .int), .methodLink "SeamPull" 183 ⟨"SeamPull$Plan", "hasAct", "(I)Z"⟩, .instanceMethod ⟨"SeamPull$Plan", "hasAct", "(I)Z"⟩]
set_option maxRecDepth 100000 in
theorem bgt_7 : ∀ w ∈ BG_7, w ∈ lw_tbl := bg_in [580, 581, 582, 583, 584, 585, 586, 587, 589, 590, 591, 592, 593, 594, 595, 596, 597, 598, 599, 600, 601, 602, 603, 604, 605, 606, 607, 608, 609, 610, 611, 612, 614, 615, 616, 617, 619, 620, 621, 622, 623, 624, 625, 626, 627, 628, 629, 630, 631, 632, 633, 634, 635, 636, 637, 638, 639, 640, 641, 642, 643, 644, 645, 646] (by decide +kernel)
theorem bgg_7 : BG_7.all goodWord = true := by decide +kernel
def BG_8 : List Cond := [.selects "SeamPull$Plan" ⟨"SeamPull$Plan", "hasAct", "(I)Z"⟩ ⟨"SeamPull$Plan", "hasAct", "(I)Z"⟩, .code ⟨"SeamPull$Plan", "hasAct", "(I)Z"⟩ prog_5_method_6_code 2 (some .boolean), .methodLink "SeamPull" 192 ⟨"SeamPull$Plan", "isStep", "(I)Z"⟩, .instanceMethod ⟨"SeamPull$Plan", "isStep", "(I)Z"⟩, .selects "SeamPull$Plan" ⟨"SeamPull$Plan", "isStep", "(I)Z"⟩ ⟨"SeamPull$Plan", "isStep", "(I)Z"⟩, .code ⟨"SeamPull$Plan", "isStep", "(I)Z"⟩ prog_5_method_7_code 2 (some .boolean), .methodLink "SeamPull$Plan" 49 ⟨"SeamPull$Plan", "hasAct", "(I)Z"⟩, .constant "SeamPull" 198 (-1000000), .methodLink "SeamPullLaw" 53 ⟨"SeamPull", "open", "(II)I"⟩, .instanceMethod ⟨"SeamPull", "open", "(II)I"⟩, .selects "SeamPull" ⟨"SeamPull", "open", "(II)I"⟩ ⟨"SeamPull", "open", "(II)I"⟩, .code ⟨"SeamPull", "open", "(II)I"⟩ prog_1_method_11_code 4 (some .int), .methodLink "SeamPull" 202 ⟨"SeamPull$Plan", "hasCell", "(I)Z"⟩, .instanceMethod ⟨"SeamPull$Plan", "hasCell", "(I)Z"⟩, .selects "SeamPull$Plan" ⟨"SeamPull$Plan", "hasCell", "(I)Z"⟩ ⟨"SeamPull$Plan", "hasCell", "(I)Z"⟩, .code ⟨"SeamPull$Plan", "hasCell", "(I)Z"⟩ prog_5_method_4_code 2 (some .boolean), .methodLink "SeamPullLaw" 57 ⟨"SeamPull", "run", "(II)I"⟩, .instanceMethod ⟨"SeamPull", "run", "(II)I"⟩, .selects "SeamPull" ⟨"SeamPull", "run", "(II)I"⟩ ⟨"SeamPull", "run", "(II)I"⟩, .code ⟨"SeamPull", "run", "(II)I"⟩ prog_1_method_12_code 5 (some .int), .methodLink "SeamPull" 205 ⟨"SeamPull$Plan", "isNone", "()Z"⟩, .instanceMethod ⟨"SeamPull$Plan", "isNone", "()Z"⟩, .selects "SeamPull$Plan" ⟨"SeamPull$Plan", "isNone", "()Z"⟩ ⟨"SeamPull$Plan", "isNone", "()Z"⟩, .code ⟨"SeamPull$Plan", "isNone", "()Z"⟩ prog_5_method_3_code 1 (some .boolean), .constant "SeamPull" 209 (-1000002), .methodLink "SeamPull" 213 ⟨"SeamPull$Shelf", "tellsOrder", "(III)Z"⟩, .instanceMethod ⟨"SeamPull$Shelf", "tellsOrder", "(III)Z"⟩, .selects "SeamPull$Shelf" ⟨"SeamPull$Shelf", "tellsOrder", "(III)Z"⟩ ⟨"SeamPull$Shelf", "tellsOrder", "(III)Z"⟩, .code ⟨"SeamPull$Shelf", "tellsOrder", "(III)Z"⟩ prog_8_method_13_code 7 (some .boolean), .methodLink "SeamPull$Shelf" 47 ⟨"SeamPull$Shelf", "itemAt", "(II)I"⟩, .instanceMethod ⟨"SeamPull$Shelf", "itemAt", "(II)I"⟩, .selects "SeamPull$Shelf" ⟨"SeamPull$Shelf", "itemAt", "(II)I"⟩ ⟨"SeamPull$Shelf", "itemAt", "(II)I"⟩, .code ⟨"SeamPull$Shelf", "itemAt", "(II)I"⟩ prog_8_method_12_code 3 (some .int), .methodLink "SeamPull$Shelf" 43 ⟨"SeamPull$Shelf", "findingAt", "(III)I"⟩, .methodLink "SeamPull" 217 ⟨"SeamPull$Shelf", "itemAt", "(II)I"⟩, .methodLink "SeamPull" 220 ⟨"SeamPull", "standByOrder", "()I"⟩, .instanceMethod ⟨"SeamPull", "standByOrder", "()I"⟩, .code ⟨"SeamPull", "standByOrder", "()I"⟩ prog_1_method_14_code 1 (some .int), .methodLink "SeamPull" 223 ⟨"SeamPull$Panel", "go", "(LSeamPull$Plan;[I[II)V"⟩, .instanceMethod ⟨"SeamPull$Panel", "go", "(LSeamPull$Plan;[I[II)V"⟩, .selects "SeamPull$Panel" ⟨"SeamPull$Panel", "go", "(LSeamPull$Plan;[I[II)V"⟩ ⟨"SeamPull$Panel", "go", "(LSeamPull$Plan;[I[II)V"⟩, .code ⟨"SeamPull$Panel", "go", "(LSeamPull$Plan;[I[II)V"⟩ prog_4_method_4_code 6 (none : Option Jvm.ClassFile.FieldType), .methodLink "SeamPull$Panel" 64 ⟨"SeamPull$Panel", "begin", "(I[I)V"⟩, .methodLink "SeamPull$Panel" 71 ⟨"SeamPull$Panel", "doSeam", "(LSeamPull$Plan;I)V"⟩, .instanceMethod ⟨"SeamPull$Panel", "doSeam", "(LSeamPull$Plan;I)V"⟩, .selects "SeamPull$Panel" ⟨"SeamPull$Panel", "doSeam", "(LSeamPull$Plan;I)V"⟩ ⟨"SeamPull$Panel", "doSeam", "(LSeamPull$Plan;I)V"⟩, .code ⟨"SeamPull$Panel", "doSeam", "(LSeamPull$Plan;I)V"⟩ prog_4_method_5_code 5 (none : Option Jvm.ClassFile.FieldType), .methodLink "SeamPull$Panel" 78 ⟨"SeamPull$Plan", "firstAct", "(I)I"⟩, .instanceMethod ⟨"SeamPull$Plan", "firstAct", "(I)I"⟩, .selects "SeamPull$Plan" ⟨"SeamPull$Plan", "firstAct", "(I)I"⟩ ⟨"SeamPull$Plan", "firstAct", "(I)I"⟩, .code ⟨"SeamPull$Plan", "firstAct", "(I)I"⟩ prog_5_method_12_code 2 (some .int), .methodLink "SeamPull$Panel" 82 ⟨"SeamPull$Plan", "endOfActs", "(I)I"⟩, .instanceMethod ⟨"SeamPull$Plan", "endOfActs", "(I)I"⟩, .selects "SeamPull$Plan" ⟨"SeamPull$Plan", "endOfActs", "(I)I"⟩ ⟨"SeamPull$Plan", "endOfActs", "(I)I"⟩, .code ⟨"SeamPull$Plan", "endOfActs", "(I)I"⟩ prog_5_method_13_code 2 (some .int), .methodLink "SeamPull$Panel" 91 ⟨"SeamPull$Panel", "freeOne", "(I)V"⟩, .instanceMethod ⟨"SeamPull$Panel", "freeOne", "(I)V"⟩, .code ⟨"SeamPull$Panel", "freeOne", "(I)V"⟩ prog_4_method_11_code 2 (none : Option Jvm.ClassFile.FieldType), .methodLink "SeamPull$Panel" 102 ⟨"SeamPull$Panel", "has", "(I)Z"⟩, .instanceMethod ⟨"SeamPull$Panel", "has", "(I)Z"⟩, .code ⟨"SeamPull$Panel", "has", "(I)Z"⟩ prog_4_method_13_code 2 (some .boolean), .methodLink "SeamPull$Panel" 116 ⟨"SeamPull$Panel", "isClamped", "(I)Z"⟩, .instanceMethod ⟨"SeamPull$Panel", "isClamped", "(I)Z"⟩, .code ⟨"SeamPull$Panel", "isClamped", "(I)Z"⟩ prog_4_method_15_code 2 (some .boolean)]
set_option maxRecDepth 100000 in
theorem bgt_8 : ∀ w ∈ BG_8, w ∈ lw_tbl := bg_in [647, 648, 649, 650, 651, 652, 653, 654, 655, 656, 657, 658, 659, 660, 661, 662, 663, 664, 665, 666, 667, 668, 669, 670, 671, 672, 673, 674, 675, 676, 677, 678, 679, 680, 681, 682, 684, 685, 686, 687, 688, 689, 690, 691, 692, 693, 694, 695, 696, 697, 698, 699, 700, 701, 702, 703, 705, 706, 707, 709, 710, 711, 713, 714] (by decide +kernel)
theorem bgg_8 : BG_8.all goodWord = true := by decide +kernel
def BG_9 : List Cond := [.methodLink "SeamPull$Panel" 98 ⟨"SeamPull$Panel", "doStep", "(III)V"⟩, .instanceMethod ⟨"SeamPull$Panel", "doStep", "(III)V"⟩, .code ⟨"SeamPull$Panel", "doStep", "(III)V"⟩ prog_4_method_6_code 5 (none : Option Jvm.ClassFile.FieldType), .methodLink "SeamPull$Panel" 106 ⟨"SeamPull$Panel", "cool", "(I)V"⟩, .instanceMethod ⟨"SeamPull$Panel", "cool", "(I)V"⟩, .code ⟨"SeamPull$Panel", "cool", "(I)V"⟩ prog_4_method_16_code 3 (none : Option Jvm.ClassFile.FieldType), .methodLink "SeamPull$Panel" 109 ⟨"SeamPull$Panel", "shrinkageOf", "(III)I"⟩, .instanceMethod ⟨"SeamPull$Panel", "shrinkageOf", "(III)I"⟩, .code ⟨"SeamPull$Panel", "shrinkageOf", "(III)I"⟩ prog_4_method_8_code 5 (some .int), .methodLink "SeamPull$Panel" 125 ⟨"SeamPull$Panel", "holds", "(I)Z"⟩, .instanceMethod ⟨"SeamPull$Panel", "holds", "(I)Z"⟩, .code ⟨"SeamPull$Panel", "holds", "(I)Z"⟩ prog_4_method_14_code 2 (some .boolean), .methodLink "SeamPull$Panel" 113 ⟨"SeamPull$Panel", "effectOf", "(II)I"⟩, .instanceMethod ⟨"SeamPull$Panel", "effectOf", "(II)I"⟩, .code ⟨"SeamPull$Panel", "effectOf", "(II)I"⟩ prog_4_method_7_code 5 (some .int), .methodLink "SeamPull$Panel" 119 ⟨"SeamPull$Panel", "heatOfStep", "(II)I"⟩, .static ⟨"SeamPull$Panel", "heatOfStep", "(II)I"⟩, .code ⟨"SeamPull$Panel", "heatOfStep", "(II)I"⟩ prog_4_method_9_code 2 (some .int), .methodLink "SeamPull$Panel" 122 ⟨"SeamPull$Panel", "holdOfStep", "(I)I"⟩, .static ⟨"SeamPull$Panel", "holdOfStep", "(I)I"⟩, .code ⟨"SeamPull$Panel", "holdOfStep", "(I)I"⟩ prog_4_method_10_code 1 (some .int), .methodLink "SeamPull$Panel" 75 ⟨"SeamPull$Panel", "freeAll", "()V"⟩, .instanceMethod ⟨"SeamPull$Panel", "freeAll", "()V"⟩, .selects "SeamPull$Panel" ⟨"SeamPull$Panel", "freeAll", "()V"⟩ ⟨"SeamPull$Panel", "freeAll", "()V"⟩, .code ⟨"SeamPull$Panel", "freeAll", "()V"⟩ prog_4_method_12_code 2 (none : Option Jvm.ClassFile.FieldType), .methodLink "SeamPull" 227 ⟨"SeamPull$Panel", "off", "()I"⟩, .instanceMethod ⟨"SeamPull$Panel", "off", "()I"⟩, .selects "SeamPull$Panel" ⟨"SeamPull$Panel", "off", "()I"⟩ ⟨"SeamPull$Panel", "off", "()I"⟩, .code ⟨"SeamPull$Panel", "off", "()I"⟩ prog_4_method_21_code 6 (some .int), .methodLink "SeamPull$Panel" 132 ⟨"SeamPull$Panel", "heightAt", "(I)I"⟩, .instanceMethod ⟨"SeamPull$Panel", "heightAt", "(I)I"⟩, .selects "SeamPull$Panel" ⟨"SeamPull$Panel", "heightAt", "(I)I"⟩ ⟨"SeamPull$Panel", "heightAt", "(I)I"⟩, .code ⟨"SeamPull$Panel", "heightAt", "(I)I"⟩ prog_4_method_20_code 5 (some .int), .methodLink "SeamPull$Panel" 135 ⟨"java/lang/Math", "abs", "(I)I"⟩, .static ⟨"java/lang/Math", "abs", "(I)I"⟩, .code ⟨"java/lang/Math", "abs", "(I)I"⟩ prog_13_method_59_code 1 (some .int), .methodLink "SeamPull$Panel" 138 ⟨"java/lang/Math", "max", "(II)I"⟩, .static ⟨"java/lang/Math", "max", "(II)I"⟩, .code ⟨"java/lang/Math", "max", "(II)I"⟩ prog_13_method_65_code 2 (some .int), .methodLink "SeamPullLaw" 61 ⟨"SeamPull", "runs", "()I"⟩, .instanceMethod ⟨"SeamPull", "runs", "()I"⟩, .selects "SeamPull" ⟨"SeamPull", "runs", "()I"⟩ ⟨"SeamPull", "runs", "()I"⟩, .code ⟨"SeamPull", "runs", "()I"⟩ prog_1_method_13_code 1 (some .int), .methodLink "SeamPullLaw" 65 ⟨"SeamPull", "cell", "(II)I"⟩, .instanceMethod ⟨"SeamPull", "cell", "(II)I"⟩, .selects "SeamPull" ⟨"SeamPull", "cell", "(II)I"⟩ ⟨"SeamPull", "cell", "(II)I"⟩, .code ⟨"SeamPull", "cell", "(II)I"⟩ prog_1_method_15_code 3 (some .int), .methodLink "SeamPull" 230 ⟨"SeamPull$Panel", "heatOf", "(I)I"⟩, .instanceMethod ⟨"SeamPull$Panel", "heatOf", "(I)I"⟩, .selects "SeamPull$Panel" ⟨"SeamPull$Panel", "heatOf", "(I)I"⟩ ⟨"SeamPull$Panel", "heatOf", "(I)I"⟩, .code ⟨"SeamPull$Panel", "heatOf", "(I)I"⟩ prog_4_method_17_code 2 (some .int), .methodLink "SeamPull" 239 ⟨"SeamPull$Panel", "pullOf", "(I)I"⟩, .instanceMethod ⟨"SeamPull$Panel", "pullOf", "(I)I"⟩, .selects "SeamPull$Panel" ⟨"SeamPull$Panel", "pullOf", "(I)I"⟩ ⟨"SeamPull$Panel", "pullOf", "(I)I"⟩, .code ⟨"SeamPull$Panel", "pullOf", "(I)I"⟩ prog_4_method_18_code 2 (some .int), .methodLink "SeamPullLaw" 69 ⟨"SeamPull", "height", "(I)I"⟩, .instanceMethod ⟨"SeamPull", "height", "(I)I"⟩, .selects "SeamPull" ⟨"SeamPull", "height", "(I)I"⟩ ⟨"SeamPull", "height", "(I)I"⟩, .code ⟨"SeamPull", "height", "(I)I"⟩ prog_1_method_16_code 2 (some .int), .methodLink "SeamPull" 242 ⟨"SeamPull$Panel", "heightAt", "(I)I"⟩, .methodLink "SeamPullLaw" 73 ⟨"SeamPull", "minutes", "()I"⟩, .instanceMethod ⟨"SeamPull", "minutes", "()I"⟩, .selects "SeamPull" ⟨"SeamPull", "minutes", "()I"⟩ ⟨"SeamPull", "minutes", "()I"⟩, .code ⟨"SeamPull", "minutes", "()I"⟩ prog_1_method_17_code 1 (some .int)]
set_option maxRecDepth 100000 in
theorem bgt_9 : ∀ w ∈ BG_9, w ∈ lw_tbl := bg_in [715, 717, 718, 719, 721, 722, 723, 725, 726, 727, 729, 730, 731, 733, 734, 735, 736, 737, 738, 739, 740, 741, 742, 743, 744, 745, 746, 747, 748, 749, 750, 751, 752, 753, 754, 755, 756, 757, 758, 759, 760, 761, 762, 763, 764, 765, 766, 767, 768, 769, 770, 771, 772, 773, 774, 775, 776, 777, 778, 779, 780, 781, 782, 783] (by decide +kernel)
theorem bgg_9 : BG_9.all goodWord = true := by decide +kernel
def BG_10 : List Cond := [.methodLink "SeamPullLaw" 77 ⟨"SeamPull", "gives", "(I)I"⟩, .instanceMethod ⟨"SeamPull", "gives", "(I)I"⟩, .selects "SeamPull" ⟨"SeamPull", "gives", "(I)I"⟩ ⟨"SeamPull", "gives", "(I)I"⟩, .code ⟨"SeamPull", "gives", "(I)I"⟩ prog_1_method_18_code 3 (some .int), .methodLink "SeamPull" 248 ⟨"SeamPull$Plan", "hasSeam", "(I)Z"⟩, .methodLink "SeamPullLaw" 81 ⟨"SeamPull", "best", "(I)I"⟩, .instanceMethod ⟨"SeamPull", "best", "(I)I"⟩, .selects "SeamPull" ⟨"SeamPull", "best", "(I)I"⟩ ⟨"SeamPull", "best", "(I)I"⟩, .code ⟨"SeamPull", "best", "(I)I"⟩ prog_1_method_19_code 2 (some .int), .methodLink "SeamPull" 251 ⟨"SeamPull$Search", "look", "(LSeamPull$Plan;[I)V"⟩, .instanceMethod ⟨"SeamPull$Search", "look", "(LSeamPull$Plan;[I)V"⟩, .selects "SeamPull$Search" ⟨"SeamPull$Search", "look", "(LSeamPull$Plan;[I)V"⟩ ⟨"SeamPull$Search", "look", "(LSeamPull$Plan;[I)V"⟩, .code ⟨"SeamPull$Search", "look", "(LSeamPull$Plan;[I)V"⟩ prog_7_method_3_code 3 (none : Option Jvm.ClassFile.FieldType), .methodLink "SeamPull$Search" 44 ⟨"SeamPull$Panel", "begin", "(I[I)V"⟩, .methodLink "SeamPull$Search" 48 ⟨"SeamPull$Search", "tryFrom", "(LSeamPull$Plan;II)V"⟩, .instanceMethod ⟨"SeamPull$Search", "tryFrom", "(LSeamPull$Plan;II)V"⟩, .code ⟨"SeamPull$Search", "tryFrom", "(LSeamPull$Plan;II)V"⟩ prog_7_method_4_code 5 (none : Option Jvm.ClassFile.FieldType), .methodLink "SeamPull$Search" 55 ⟨"SeamPull$Search", "weigh", "(LSeamPull$Panel;I)V"⟩, .instanceMethod ⟨"SeamPull$Search", "weigh", "(LSeamPull$Panel;I)V"⟩, .code ⟨"SeamPull$Search", "weigh", "(LSeamPull$Panel;I)V"⟩ prog_7_method_5_code 4 (none : Option Jvm.ClassFile.FieldType), .methodLink "SeamPull$Search" 71 ⟨"SeamPull$Panel", "freeAll", "()V"⟩, .methodLink "SeamPull$Search" 74 ⟨"SeamPull$Panel", "off", "()I"⟩, .methodLink "SeamPull$Search" 78 ⟨"java/lang/System", "arraycopy", "(Ljava/lang/Object;ILjava/lang/Object;II)V"⟩, .methodLink "SeamPull$Search" 59 ⟨"SeamPull$Plan", "mayFollow", "(II)Z"⟩, .instanceMethod ⟨"SeamPull$Plan", "mayFollow", "(II)Z"⟩, .selects "SeamPull$Plan" ⟨"SeamPull$Plan", "mayFollow", "(II)Z"⟩ ⟨"SeamPull$Plan", "mayFollow", "(II)Z"⟩, .code ⟨"SeamPull$Plan", "mayFollow", "(II)Z"⟩ prog_5_method_14_code 3 (some .boolean), .methodLink "SeamPull$Search" 63 ⟨"SeamPull$Panel", "becomeAs", "(LSeamPull$Panel;)V"⟩, .instanceMethod ⟨"SeamPull$Panel", "becomeAs", "(LSeamPull$Panel;)V"⟩, .selects "SeamPull$Panel" ⟨"SeamPull$Panel", "becomeAs", "(LSeamPull$Panel;)V"⟩ ⟨"SeamPull$Panel", "becomeAs", "(LSeamPull$Panel;)V"⟩, .code ⟨"SeamPull$Panel", "becomeAs", "(LSeamPull$Panel;)V"⟩ prog_4_method_3_code 2 (none : Option Jvm.ClassFile.FieldType), .methodLink "SeamPull$Search" 67 ⟨"SeamPull$Panel", "doSeam", "(LSeamPull$Plan;I)V"⟩, .methodLink "SeamPullLaw" 85 ⟨"SeamPull", "orders", "()I"⟩, .instanceMethod ⟨"SeamPull", "orders", "()I"⟩, .selects "SeamPull" ⟨"SeamPull", "orders", "()I"⟩ ⟨"SeamPull", "orders", "()I"⟩, .code ⟨"SeamPull", "orders", "()I"⟩ prog_1_method_20_code 1 (some .int), .methodLink "SeamPull" 264 ⟨"SeamPull$Search", "howManyFit", "(LSeamPull$Plan;)I"⟩, .instanceMethod ⟨"SeamPull$Search", "howManyFit", "(LSeamPull$Plan;)I"⟩, .selects "SeamPull$Search" ⟨"SeamPull$Search", "howManyFit", "(LSeamPull$Plan;)I"⟩ ⟨"SeamPull$Search", "howManyFit", "(LSeamPull$Plan;)I"⟩, .code ⟨"SeamPull$Search", "howManyFit", "(LSeamPull$Plan;)I"⟩ prog_7_method_6_code 5 (some .int), .methodLink "SeamPull$Search" 84 ⟨"java/util/Arrays", "fill", "([II)V"⟩, .methodLink "SeamPullLaw" 89 ⟨"SeamPull", "beforehand", "(I)I"⟩, .instanceMethod ⟨"SeamPull", "beforehand", "(I)I"⟩, .selects "SeamPull" ⟨"SeamPull", "beforehand", "(I)I"⟩ ⟨"SeamPull", "beforehand", "(I)I"⟩, .code ⟨"SeamPull", "beforehand", "(I)I"⟩ prog_1_method_21_code 2 (some .int), .methodLink "SeamPull" 267 ⟨"SeamPull$Beforehand", "look", "(LSeamPull$Plan;LSeamPull$Panel;)V"⟩, .instanceMethod ⟨"SeamPull$Beforehand", "look", "(LSeamPull$Plan;LSeamPull$Panel;)V"⟩, .selects "SeamPull$Beforehand" ⟨"SeamPull$Beforehand", "look", "(LSeamPull$Plan;LSeamPull$Panel;)V"⟩ ⟨"SeamPull$Beforehand", "look", "(LSeamPull$Plan;LSeamPull$Panel;)V"⟩, .code ⟨"SeamPull$Beforehand", "look", "(LSeamPull$Plan;LSeamPull$Panel;)V"⟩ prog_3_method_3_code 5 (none : Option Jvm.ClassFile.FieldType), .constant "SeamPull$Beforehand" 22 (-1000000), .methodLink "SeamPull$Beforehand" 23 ⟨"java/util/Arrays", "fill", "([II)V"⟩, .methodLink "SeamPull$Beforehand" 32 ⟨"SeamPull$Panel", "go", "(LSeamPull$Plan;[I[II)V"⟩, .methodLink "SeamPull$Beforehand" 38 ⟨"SeamPull$Beforehand", "keepWhereFlat", "(LSeamPull$Panel;I)V"⟩, .instanceMethod ⟨"SeamPull$Beforehand", "keepWhereFlat", "(LSeamPull$Panel;I)V"⟩, .code ⟨"SeamPull$Beforehand", "keepWhereFlat", "(LSeamPull$Panel;I)V"⟩ prog_3_method_4_code 4 (none : Option Jvm.ClassFile.FieldType), .methodLink "SeamPullLaw" 93 ⟨"SeamPull", "spots", "(II)I"⟩, .instanceMethod ⟨"SeamPull", "spots", "(II)I"⟩, .selects "SeamPull" ⟨"SeamPull", "spots", "(II)I"⟩ ⟨"SeamPull", "spots", "(II)I"⟩, .code ⟨"SeamPull", "spots", "(II)I"⟩ prog_1_method_22_code 7 (some .int), .methodLink "SeamPull" 273 ⟨"java/lang/Integer", "bitCount", "(I)I"⟩, .static ⟨"java/lang/Integer", "bitCount", "(I)I"⟩, .code ⟨"java/lang/Integer", "bitCount", "(I)I"⟩ prog_12_method_49_code 1 (some .int), .constant "java/lang/Integer" 265 (1431655765), .constant "java/lang/Integer" 266 (858993459)]
set_option maxRecDepth 100000 in
theorem bgt_10 : ∀ w ∈ BG_10, w ∈ lw_tbl := bg_in [784, 785, 786, 787, 788, 789, 790, 791, 792, 793, 794, 795, 796, 797, 798, 800, 801, 802, 804, 805, 806, 807, 808, 809, 810, 811, 812, 813, 814, 815, 816, 817, 818, 819, 820, 821, 822, 823, 824, 825, 826, 827, 828, 829, 830, 831, 832, 833, 834, 835, 836, 838, 839, 841, 842, 843, 844, 845, 846, 847, 848, 849, 850, 851] (by decide +kernel)
theorem bgg_10 : BG_10.all goodWord = true := by decide +kernel
def BG_11 : List Cond := [.constant "java/lang/Integer" 267 (252645135), .methodLink "SeamPull" 278 ⟨"SeamPull", "drawDown", "(III)Z"⟩, .instanceMethod ⟨"SeamPull", "drawDown", "(III)Z"⟩, .code ⟨"SeamPull", "drawDown", "(III)Z"⟩ prog_1_method_23_code 5 (some .boolean), .methodLink "SeamPull" 281 ⟨"SeamPull", "spotAt", "(II)V"⟩, .instanceMethod ⟨"SeamPull", "spotAt", "(II)V"⟩, .code ⟨"SeamPull", "spotAt", "(II)V"⟩ prog_1_method_24_code 3 (none : Option Jvm.ClassFile.FieldType), .methodLink "SeamPull" 290 ⟨"java/lang/Math", "max", "(II)I"⟩, .methodLink "SeamPull" 293 ⟨"java/lang/Math", "min", "(II)I"⟩, .methodLink "SeamPull" 285 ⟨"java/lang/Math", "abs", "(I)I"⟩, .methodLink "SeamPullLaw" 97 ⟨"SeamPull", "crack", "(I)I"⟩, .instanceMethod ⟨"SeamPull", "crack", "(I)I"⟩, .selects "SeamPull" ⟨"SeamPull", "crack", "(I)I"⟩ ⟨"SeamPull", "crack", "(I)I"⟩, .code ⟨"SeamPull", "crack", "(I)I"⟩ prog_1_method_25_code 2 (some .int), .methodLink "SeamPull" 296 ⟨"SeamPull$Panel", "firstAbove", "(I)I"⟩, .instanceMethod ⟨"SeamPull$Panel", "firstAbove", "(I)I"⟩, .selects "SeamPull$Panel" ⟨"SeamPull$Panel", "firstAbove", "(I)I"⟩ ⟨"SeamPull$Panel", "firstAbove", "(I)I"⟩, .code ⟨"SeamPull$Panel", "firstAbove", "(I)I"⟩ prog_4_method_19_code 3 (some .int), .methodLink "SeamPull$Panel" 128 ⟨"SeamPull$Panel", "pullOf", "(I)I"⟩, .constant "SeamPull$Panel" 131 (-1000000), .methodLink "SeamPullLaw" 101 ⟨"SeamPull", "warm", "()I"⟩, .instanceMethod ⟨"SeamPull", "warm", "()I"⟩, .selects "SeamPull" ⟨"SeamPull", "warm", "()I"⟩ ⟨"SeamPull", "warm", "()I"⟩, .code ⟨"SeamPull", "warm", "()I"⟩ prog_1_method_26_code 2 (some .int), .methodLink "SeamPullLaw" 105 ⟨"SeamPull", "wire", "(III)I"⟩, .instanceMethod ⟨"SeamPull", "wire", "(III)I"⟩, .selects "SeamPull" ⟨"SeamPull", "wire", "(III)I"⟩ ⟨"SeamPull", "wire", "(III)I"⟩, .code ⟨"SeamPull", "wire", "(III)I"⟩ prog_1_method_27_code 5 (some .int), .methodLink "SeamPull" 299 ⟨"SeamPull$Shelf", "allWithin", "(IIII)Z"⟩, .instanceMethod ⟨"SeamPull$Shelf", "allWithin", "(IIII)Z"⟩, .selects "SeamPull$Shelf" ⟨"SeamPull$Shelf", "allWithin", "(IIII)Z"⟩ ⟨"SeamPull$Shelf", "allWithin", "(IIII)Z"⟩, .code ⟨"SeamPull$Shelf", "allWithin", "(IIII)Z"⟩ prog_8_method_14_code 7 (some .boolean), .methodLink "SeamPull" 303 ⟨"SeamPull", "steelOf", "(II)I"⟩, .instanceMethod ⟨"SeamPull", "steelOf", "(II)I"⟩, .code ⟨"SeamPull", "steelOf", "(II)I"⟩ prog_1_method_29_code 4 (some .int), .methodLink "SeamPull" 309 ⟨"SeamPull", "isSteel", "(III)Z"⟩, .instanceMethod ⟨"SeamPull", "isSteel", "(III)Z"⟩, .code ⟨"SeamPull", "isSteel", "(III)Z"⟩ prog_1_method_30_code 5 (some .boolean), .methodLink "SeamPull" 306 ⟨"SeamPull", "wireBend", "(III)I"⟩, .instanceMethod ⟨"SeamPull", "wireBend", "(III)I"⟩, .code ⟨"SeamPull", "wireBend", "(III)I"⟩ prog_1_method_28_code 7 (some .int), .methodLink "SeamPullLaw" 109 ⟨"SeamPull", "kind", "(I)I"⟩, .instanceMethod ⟨"SeamPull", "kind", "(I)I"⟩, .selects "SeamPull" ⟨"SeamPull", "kind", "(I)I"⟩ ⟨"SeamPull", "kind", "(I)I"⟩, .code ⟨"SeamPull", "kind", "(I)I"⟩ prog_1_method_31_code 2 (some .int), .methodLink "SeamPull" 312 ⟨"SeamPull$Plan", "stepKind", "(I)I"⟩, .instanceMethod ⟨"SeamPull$Plan", "stepKind", "(I)I"⟩, .selects "SeamPull$Plan" ⟨"SeamPull$Plan", "stepKind", "(I)I"⟩ ⟨"SeamPull$Plan", "stepKind", "(I)I"⟩, .code ⟨"SeamPull$Plan", "stepKind", "(I)I"⟩ prog_5_method_8_code 2 (some .int), .methodLink "SeamPullLaw" 113 ⟨"SeamPull", "as", "(II)I"⟩, .instanceMethod ⟨"SeamPull", "as", "(II)I"⟩, .selects "SeamPull" ⟨"SeamPull", "as", "(II)I"⟩ ⟨"SeamPull", "as", "(II)I"⟩, .code ⟨"SeamPull", "as", "(II)I"⟩ prog_1_method_32_code 3 (some .int), .methodLink "SeamPull" 315 ⟨"SeamPull$Asks", "hasKind", "(I)Z"⟩, .static ⟨"SeamPull$Asks", "hasKind", "(I)Z"⟩, .code ⟨"SeamPull$Asks", "hasKind", "(I)Z"⟩ prog_2_method_2_code 1 (some .boolean), .methodLink "SeamPull" 318 ⟨"SeamPull$Asks", "isOfKind", "(II)Z"⟩, .static ⟨"SeamPull$Asks", "isOfKind", "(II)Z"⟩, .code ⟨"SeamPull$Asks", "isOfKind", "(II)Z"⟩ prog_2_method_3_code 4 (some .boolean), .methodLink "SeamPull$Asks" 19 ⟨"SeamPull$Asks", "hasKind", "(I)Z"⟩, .fieldLink "SeamPull$Asks" 23 "SeamPull$Asks" "NEAREST" "[I", .methodLink "SeamPullLaw" 117 ⟨"SeamPull", "ask", "(II)I"⟩, .instanceMethod ⟨"SeamPull", "ask", "(II)I"⟩, .selects "SeamPull" ⟨"SeamPull", "ask", "(II)I"⟩ ⟨"SeamPull", "ask", "(II)I"⟩]
set_option maxRecDepth 100000 in
theorem bgt_11 : ∀ w ∈ BG_11, w ∈ lw_tbl := bg_in [852, 853, 855, 856, 857, 859, 860, 861, 862, 863, 864, 865, 866, 867, 868, 869, 870, 871, 872, 873, 874, 875, 876, 877, 878, 879, 880, 881, 882, 883, 884, 885, 886, 888, 889, 890, 892, 893, 894, 896, 897, 898, 899, 900, 901, 902, 903, 904, 905, 906, 907, 908, 909, 910, 911, 912, 913, 914, 915, 916, 917, 919, 920, 921] (by decide +kernel)
theorem bgg_11 : BG_11.all goodWord = true := by decide +kernel
def BG_12 : List Cond := [.code ⟨"SeamPull", "ask", "(II)I"⟩ prog_1_method_33_code 3 (some .int), .methodLink "SeamPull" 322 ⟨"SeamPull$Asks", "answerOf", "(LSeamPull$Plan;II)I"⟩, .instanceMethod ⟨"SeamPull$Asks", "answerOf", "(LSeamPull$Plan;II)I"⟩, .selects "SeamPull$Asks" ⟨"SeamPull$Asks", "answerOf", "(LSeamPull$Plan;II)I"⟩ ⟨"SeamPull$Asks", "answerOf", "(LSeamPull$Plan;II)I"⟩, .code ⟨"SeamPull$Asks", "answerOf", "(LSeamPull$Plan;II)I"⟩ prog_2_method_5_code 4 (some .int), .methodLink "SeamPull$Asks" 32 ⟨"SeamPull$Asks", "asked", "(LSeamPull$Plan;III)I"⟩, .instanceMethod ⟨"SeamPull$Asks", "asked", "(LSeamPull$Plan;III)I"⟩, .code ⟨"SeamPull$Asks", "asked", "(LSeamPull$Plan;III)I"⟩ prog_2_method_6_code 5 (some .int), .methodLink "SeamPull$Asks" 36 ⟨"SeamPull$Plan", "stepKind", "(I)I"⟩, .methodLink "SeamPull$Asks" 42 ⟨"SeamPull$Asks", "bodyFor", "(II)I"⟩, .static ⟨"SeamPull$Asks", "bodyFor", "(II)I"⟩, .code ⟨"SeamPull$Asks", "bodyFor", "(II)I"⟩ prog_2_method_4_code 5 (some .int), .fieldLink "SeamPull$Asks" 26 "SeamPull$Asks" "SIZE_BODY" "[I", .fieldLink "SeamPull$Asks" 29 "SeamPull$Asks" "MARK_BODY" "[I", .methodLink "SeamPull$Asks" 46 ⟨"SeamPull$Asks", "given", "(LSeamPull$Plan;III)I"⟩, .instanceMethod ⟨"SeamPull$Asks", "given", "(LSeamPull$Plan;III)I"⟩, .code ⟨"SeamPull$Asks", "given", "(LSeamPull$Plan;III)I"⟩ prog_2_method_7_code 5 (some .int), .methodLink "SeamPull$Asks" 49 ⟨"SeamPull$Asks", "leave", "(I)V"⟩, .instanceMethod ⟨"SeamPull$Asks", "leave", "(I)V"⟩, .code ⟨"SeamPull$Asks", "leave", "(I)V"⟩ prog_2_method_8_code 2 (none : Option Jvm.ClassFile.FieldType), .methodLink "SeamPullLaw" 121 ⟨"SeamPull", "trace", "(I)I"⟩, .instanceMethod ⟨"SeamPull", "trace", "(I)I"⟩, .selects "SeamPull" ⟨"SeamPull", "trace", "(I)I"⟩ ⟨"SeamPull", "trace", "(I)I"⟩, .code ⟨"SeamPull", "trace", "(I)I"⟩ prog_1_method_34_code 2 (some .int), .methodLink "SeamPull" 326 ⟨"SeamPull$Asks", "traced", "(I)I"⟩, .instanceMethod ⟨"SeamPull$Asks", "traced", "(I)I"⟩, .selects "SeamPull$Asks" ⟨"SeamPull$Asks", "traced", "(I)I"⟩ ⟨"SeamPull$Asks", "traced", "(I)I"⟩, .code ⟨"SeamPull$Asks", "traced", "(I)I"⟩ prog_2_method_9_code 2 (some .int), .constant "SeamPull$Asks" 56 (-1000000), .methodLink "SeamPullLaw" 125 ⟨"SeamPull", "count", "(I)I"⟩, .instanceMethod ⟨"SeamPull", "count", "(I)I"⟩, .selects "SeamPull" ⟨"SeamPull", "count", "(I)I"⟩ ⟨"SeamPull", "count", "(I)I"⟩, .code ⟨"SeamPull", "count", "(I)I"⟩ prog_1_method_35_code 2 (some .int), .methodLink "SeamPull" 329 ⟨"SeamPull$Shelf", "howMany", "()I"⟩, .instanceMethod ⟨"SeamPull$Shelf", "howMany", "()I"⟩, .selects "SeamPull$Shelf" ⟨"SeamPull$Shelf", "howMany", "()I"⟩ ⟨"SeamPull$Shelf", "howMany", "()I"⟩, .code ⟨"SeamPull$Shelf", "howMany", "()I"⟩ prog_8_method_4_code 3 (some .int), .methodLink "SeamPullLaw" 129 ⟨"SeamPull", "status", "()I"⟩, .instanceMethod ⟨"SeamPull", "status", "()I"⟩, .selects "SeamPull" ⟨"SeamPull", "status", "()I"⟩ ⟨"SeamPull", "status", "()I"⟩, .code ⟨"SeamPull", "status", "()I"⟩ prog_1_method_36_code 1 (some .int), .classLink "SeamPullLaw" 10 "SeamPullModel", .instantiable "SeamPullModel" 43, .methodLink "SeamPullLaw" 12 ⟨"SeamPullModel", "<init>", "()V"⟩, .instanceMethod ⟨"SeamPullModel", "<init>", "()V"⟩, .code ⟨"SeamPullModel", "<init>", "()V"⟩ prog_11_method_1_code 1 (none : Option Jvm.ClassFile.FieldType), .methodLink "SeamPullModel" 1 ⟨"java/lang/Object", "<init>", "()V"⟩, .fieldLink "SeamPullModel" 71 "SeamPullModel" "thrown" "I", .fieldLink "SeamPullModel" 75 "SeamPullModel" "status" "I", .fieldLink "SeamPullModel" 7 "SeamPullModel" "lane" "[I", .fieldLink "SeamPullModel" 13 "SeamPullModel" "many" "[I", .fieldLink "SeamPullModel" 16 "SeamPullModel" "item" "[I", .fieldLink "SeamPullModel" 212 "SeamPullModel" "cells" "I", .fieldLink "SeamPullModel" 215 "SeamPullModel" "seams" "I", .fieldLink "SeamPullModel" 218 "SeamPullModel" "acts" "I", .fieldLink "SeamPullModel" 221 "SeamPullModel" "befores" "I", .fieldLink "SeamPullModel" 19 "SeamPullModel" "act" "[I", .fieldLink "SeamPullModel" 22 "SeamPullModel" "ahead" "[I", .fieldLink "SeamPullModel" 25 "SeamPullModel" "behind" "[I", .fieldLink "SeamPullModel" 177 "SeamPullModel" "newCells" "I", .fieldLink "SeamPullModel" 180 "SeamPullModel" "newSeams" "I", .fieldLink "SeamPullModel" 170 "SeamPullModel" "newActs" "I", .fieldLink "SeamPullModel" 193 "SeamPullModel" "newBefores" "I", .fieldLink "SeamPullModel" 28 "SeamPullModel" "newAct" "[I"]
set_option maxRecDepth 100000 in
theorem bgt_12 : ∀ w ∈ BG_12, w ∈ lw_tbl := bg_in [922, 923, 924, 925, 926, 927, 929, 930, 931, 932, 933, 934, 935, 937, 939, 941, 942, 943, 945, 946, 947, 948, 949, 950, 951, 952, 953, 954, 955, 956, 957, 958, 959, 960, 961, 962, 963, 964, 965, 966, 967, 968, 969, 970, 971, 972, 973, 974, 975, 976, 977, 978, 979, 980, 981, 982, 983, 984, 985, 986, 987, 988, 989, 990] (by decide +kernel)
theorem bgg_12 : BG_12.all goodWord = true := by decide +kernel
def BG_13 : List Cond := [.fieldLink "SeamPullModel" 31 "SeamPullModel" "newAhead" "[I", .fieldLink "SeamPullModel" 34 "SeamPullModel" "newBehind" "[I", .fieldLink "SeamPullModel" 37 "SeamPullModel" "tape" "[I", .fieldLink "SeamPullModel" 98 "SeamPullModel" "taped" "I", .fieldLink "SeamPullModel" 208 "SeamPullModel" "latest" "I", .fieldLink "SeamPullModel" 104 "SeamPullModel" "length" "I", .fieldLink "SeamPullModel" 108 "SeamPullModel" "cursor" "I", .fieldLink "SeamPullModel" 117 "SeamPullModel" "token" "I", .fieldLink "SeamPullModel" 114 "SeamPullModel" "from" "I", .fieldLink "SeamPullModel" 126 "SeamPullModel" "till" "I", .fieldLink "SeamPullModel" 129 "SeamPullModel" "fault" "I", .fieldLink "SeamPullModel" 132 "SeamPullModel" "faultAt" "I", .fieldLink "SeamPullModel" 40 "SeamPullModel" "opened" "[I", .fieldLink "SeamPullModel" 43 "SeamPullModel" "lastOrder" "[I", .fieldLink "SeamPullModel" 224 "SeamPullModel" "isRun" "Z", .fieldLink "SeamPullModel" 46 "SeamPullModel" "now" "[I", .fieldLink "SeamPullModel" 49 "SeamPullModel" "spring" "[I", .fieldLink "SeamPullModel" 52 "SeamPullModel" "isClamped" "[Z", .fieldLink "SeamPullModel" 240 "SeamPullModel" "went" "I", .fieldLink "SeamPullModel" 56 "SeamPullModel" "left" "[I", .fieldLink "SeamPullModel" 270 "SeamPullModel" "leftMinutes" "I", .fieldLink "SeamPullModel" 59 "SeamPullModel" "begins" "[I", .fieldLink "SeamPullModel" 62 "SeamPullModel" "order" "[I", .fieldLink "SeamPullModel" 65 "SeamPullModel" "bestOrder" "[I", .fieldLink "SeamPullModel" 68 "SeamPullModel" "trace" "[I", .fieldLink "SeamPullModel" 332 "SeamPullModel" "traced" "I", .lays "SeamPullModel" "SeamPullModel" "thrown" "I", .lays "SeamPullModel" "SeamPullModel" "status" "I", .laysFinal "SeamPullModel" "SeamPullModel" "lane" "[I", .laysFinal "SeamPullModel" "SeamPullModel" "many" "[I", .laysFinal "SeamPullModel" "SeamPullModel" "item" "[I", .lays "SeamPullModel" "SeamPullModel" "cells" "I", .lays "SeamPullModel" "SeamPullModel" "seams" "I", .lays "SeamPullModel" "SeamPullModel" "acts" "I", .lays "SeamPullModel" "SeamPullModel" "befores" "I", .laysFinal "SeamPullModel" "SeamPullModel" "act" "[I", .laysFinal "SeamPullModel" "SeamPullModel" "ahead" "[I", .laysFinal "SeamPullModel" "SeamPullModel" "behind" "[I", .lays "SeamPullModel" "SeamPullModel" "newCells" "I", .lays "SeamPullModel" "SeamPullModel" "newSeams" "I", .lays "SeamPullModel" "SeamPullModel" "newActs" "I", .lays "SeamPullModel" "SeamPullModel" "newBefores" "I", .laysFinal "SeamPullModel" "SeamPullModel" "newAct" "[I", .laysFinal "SeamPullModel" "SeamPullModel" "newAhead" "[I", .laysFinal "SeamPullModel" "SeamPullModel" "newBehind" "[I", .laysFinal "SeamPullModel" "SeamPullModel" "tape" "[I", .lays "SeamPullModel" "SeamPullModel" "taped" "I", .lays "SeamPullModel" "SeamPullModel" "latest" "I", .lays "SeamPullModel" "SeamPullModel" "length" "I", .lays "SeamPullModel" "SeamPullModel" "cursor" "I", .lays "SeamPullModel" "SeamPullModel" "token" "I", .lays "SeamPullModel" "SeamPullModel" "from" "I", .lays "SeamPullModel" "SeamPullModel" "till" "I", .lays "SeamPullModel" "SeamPullModel" "fault" "I", .lays "SeamPullModel" "SeamPullModel" "faultAt" "I", .laysFinal "SeamPullModel" "SeamPullModel" "opened" "[I", .laysFinal "SeamPullModel" "SeamPullModel" "lastOrder" "[I", .lays "SeamPullModel" "SeamPullModel" "isRun" "Z", .laysFinal "SeamPullModel" "SeamPullModel" "now" "[I", .laysFinal "SeamPullModel" "SeamPullModel" "spring" "[I", .laysFinal "SeamPullModel" "SeamPullModel" "isClamped" "[Z", .lays "SeamPullModel" "SeamPullModel" "went" "I", .laysFinal "SeamPullModel" "SeamPullModel" "left" "[I", .lays "SeamPullModel" "SeamPullModel" "leftMinutes" "I"]
set_option maxRecDepth 100000 in
theorem bgt_13 : ∀ w ∈ BG_13, w ∈ lw_tbl := bg_in [991, 992, 993, 994, 995, 996, 997, 998, 999, 1000, 1001, 1002, 1003, 1004, 1005, 1006, 1007, 1008, 1009, 1010, 1011, 1012, 1013, 1014, 1015, 1016, 1017, 1019, 1021, 1023, 1025, 1027, 1029, 1031, 1033, 1035, 1037, 1039, 1041, 1043, 1045, 1047, 1049, 1051, 1053, 1055, 1057, 1059, 1061, 1063, 1065, 1067, 1069, 1071, 1073, 1075, 1077, 1079, 1081, 1083, 1085, 1087, 1089, 1091] (by decide +kernel)
theorem bgg_13 : BG_13.all goodWord = true := by decide +kernel
def BG_14 : List Cond := [.laysFinal "SeamPullModel" "SeamPullModel" "begins" "[I", .laysFinal "SeamPullModel" "SeamPullModel" "order" "[I", .laysFinal "SeamPullModel" "SeamPullModel" "bestOrder" "[I", .laysFinal "SeamPullModel" "SeamPullModel" "trace" "[I", .lays "SeamPullModel" "SeamPullModel" "traced" "I", .arrayClass .boolean, .methodLink "SeamPullLaw" 17 ⟨"SeamPullModel", "sheet", "(III)I"⟩, .instanceMethod ⟨"SeamPullModel", "sheet", "(III)I"⟩, .selects "SeamPullModel" ⟨"SeamPullModel", "sheet", "(III)I"⟩ ⟨"SeamPullModel", "sheet", "(III)I"⟩, .code ⟨"SeamPullModel", "sheet", "(III)I"⟩ prog_11_method_6_code 5 (some .int), .methodLink "SeamPullModel" 85 ⟨"SeamPullModel", "isSheet", "(I)Z"⟩, .static ⟨"SeamPullModel", "isSheet", "(I)Z"⟩, .code ⟨"SeamPullModel", "isSheet", "(I)Z"⟩ prog_11_method_5_code 1 (some .boolean), .constantLong "SeamPullModel" 79 (7), .methodLink "SeamPullModel" 81 ⟨"SeamPullModel", "in", "(JJJ)Z"⟩, .static ⟨"SeamPullModel", "in", "(JJJ)Z"⟩, .code ⟨"SeamPullModel", "in", "(JJJ)Z"⟩ prog_11_method_3_code 6 (some .boolean), .constantLong "SeamPullModel" 89 (2), .constant "SeamPullModel" 91 (-1000001), .methodLink "SeamPullModel" 92 ⟨"SeamPullModel", "finding", "(I)I"⟩, .instanceMethod ⟨"SeamPullModel", "finding", "(I)I"⟩, .code ⟨"SeamPullModel", "finding", "(I)I"⟩ prog_11_method_4_code 2 (some .int), .constant "SeamPullModel" 78 (-1000010), .methodLink "SeamPullLaw" 21 ⟨"SeamPullModel", "set", "(III)I"⟩, .instanceMethod ⟨"SeamPullModel", "set", "(III)I"⟩, .selects "SeamPullModel" ⟨"SeamPullModel", "set", "(III)I"⟩ ⟨"SeamPullModel", "set", "(III)I"⟩, .code ⟨"SeamPullModel", "set", "(III)I"⟩ prog_11_method_7_code 4 (some .int), .methodLink "SeamPullLaw" 26 ⟨"SeamPullModel", "copy", "(IIIII)I"⟩, .instanceMethod ⟨"SeamPullModel", "copy", "(IIIII)I"⟩, .selects "SeamPullModel" ⟨"SeamPullModel", "copy", "(IIIII)I"⟩ ⟨"SeamPullModel", "copy", "(IIIII)I"⟩, .code ⟨"SeamPullModel", "copy", "(IIIII)I"⟩ prog_11_method_8_code 9 (some .int), .methodLink "SeamPullLaw" 31 ⟨"SeamPullModel", "drop", "(I)I"⟩, .instanceMethod ⟨"SeamPullModel", "drop", "(I)I"⟩, .selects "SeamPullModel" ⟨"SeamPullModel", "drop", "(I)I"⟩ ⟨"SeamPullModel", "drop", "(I)I"⟩, .code ⟨"SeamPullModel", "drop", "(I)I"⟩ prog_11_method_9_code 2 (some .int), .methodLink "SeamPullLaw" 38 ⟨"SeamPullModel", "feed", "(JI)I"⟩, .instanceMethod ⟨"SeamPullModel", "feed", "(JI)I"⟩, .selects "SeamPullModel" ⟨"SeamPullModel", "feed", "(JI)I"⟩ ⟨"SeamPullModel", "feed", "(JI)I"⟩, .code ⟨"SeamPullModel", "feed", "(JI)I"⟩ prog_11_method_10_code 5 (some .int), .constantLong "SeamPullModel" 96 (8), .constant "SeamPullModel" 101 (-1000003), .constantLong "SeamPullModel" 102 (255), .methodLink "SeamPullLaw" 43 ⟨"SeamPullModel", "plan", "()I"⟩, .instanceMethod ⟨"SeamPullModel", "plan", "()I"⟩, .selects "SeamPullModel" ⟨"SeamPullModel", "plan", "()I"⟩ ⟨"SeamPullModel", "plan", "()I"⟩, .code ⟨"SeamPullModel", "plan", "()I"⟩ prog_11_method_24_code 2 (some .int), .methodLink "SeamPullModel" 139 ⟨"SeamPullModel", "next", "()V"⟩, .instanceMethod ⟨"SeamPullModel", "next", "()V"⟩, .code ⟨"SeamPullModel", "next", "()V"⟩ prog_11_method_14_code 2 (none : Option Jvm.ClassFile.FieldType), .methodLink "SeamPullModel" 111 ⟨"SeamPullModel", "byteAt", "(I)I"⟩, .instanceMethod ⟨"SeamPullModel", "byteAt", "(I)I"⟩, .code ⟨"SeamPullModel", "byteAt", "(I)I"⟩ prog_11_method_11_code 2 (some .int), .constant "SeamPullModel" 107 (-1000000), .methodLink "SeamPullModel" 120 ⟨"SeamPullModel", "isLetter", "(I)Z"⟩, .static ⟨"SeamPullModel", "isLetter", "(I)Z"⟩, .code ⟨"SeamPullModel", "isLetter", "(I)Z"⟩ prog_11_method_12_code 1 (some .boolean), .methodLink "SeamPullModel" 123 ⟨"SeamPullModel", "isFigure", "(I)Z"⟩, .static ⟨"SeamPullModel", "isFigure", "(I)Z"⟩, .code ⟨"SeamPullModel", "isFigure", "(I)Z"⟩ prog_11_method_13_code 1 (some .boolean), .methodLink "SeamPullModel" 146 ⟨"SeamPullModel", "word", "()J"⟩, .instanceMethod ⟨"SeamPullModel", "word", "()J"⟩, .code ⟨"SeamPullModel", "word", "()J"⟩ prog_11_method_17_code 4 (some .long), .constantLong "SeamPullModel" 198 (482670962028), .methodLink "SeamPullModel" 142 ⟨"SeamPullModel", "must", "(Z)V"⟩]
set_option maxRecDepth 100000 in
theorem bgt_14 : ∀ w ∈ BG_14, w ∈ lw_tbl := bg_in [1093, 1095, 1097, 1099, 1101, 1104, 1105, 1106, 1107, 1108, 1109, 1110, 1111, 1112, 1113, 1114, 1115, 1116, 1117, 1118, 1120, 1121, 1122, 1123, 1124, 1125, 1126, 1127, 1128, 1129, 1130, 1131, 1132, 1133, 1134, 1135, 1136, 1137, 1138, 1139, 1140, 1141, 1142, 1143, 1144, 1145, 1146, 1148, 1149, 1150, 1152, 1153, 1154, 1155, 1156, 1157, 1158, 1159, 1160, 1161, 1163, 1164, 1165, 1166] (by decide +kernel)
theorem bgg_14 : BG_14.all goodWord = true := by decide +kernel
def BG_15 : List Cond := [.instanceMethod ⟨"SeamPullModel", "must", "(Z)V"⟩, .code ⟨"SeamPullModel", "must", "(Z)V"⟩ prog_11_method_16_code 2 (none : Option Jvm.ClassFile.FieldType), .methodLink "SeamPullModel" 135 ⟨"SeamPullModel", "bad", "(I)V"⟩, .instanceMethod ⟨"SeamPullModel", "bad", "(I)V"⟩, .code ⟨"SeamPullModel", "bad", "(I)V"⟩ prog_11_method_15_code 2 (none : Option Jvm.ClassFile.FieldType), .methodLink "SeamPullModel" 173 ⟨"SeamPullModel", "numberIn", "(III)I"⟩, .instanceMethod ⟨"SeamPullModel", "numberIn", "(III)I"⟩, .code ⟨"SeamPullModel", "numberIn", "(III)I"⟩ prog_11_method_18_code 6 (some .int), .methodLink "SeamPullModel" 190 ⟨"SeamPullModel", "mustEnd", "()V"⟩, .instanceMethod ⟨"SeamPullModel", "mustEnd", "()V"⟩, .code ⟨"SeamPullModel", "mustEnd", "()V"⟩ prog_11_method_20_code 1 (none : Option Jvm.ClassFile.FieldType), .constantLong "SeamPullModel" 200 (1936023917), .methodLink "SeamPullModel" 202 ⟨"SeamPullModel", "readSeam", "()V"⟩, .instanceMethod ⟨"SeamPullModel", "readSeam", "()V"⟩, .code ⟨"SeamPullModel", "readSeam", "()V"⟩ prog_11_method_22_code 2 (none : Option Jvm.ClassFile.FieldType), .methodLink "SeamPullModel" 183 ⟨"SeamPullModel", "kindOfWord", "()I"⟩, .instanceMethod ⟨"SeamPullModel", "kindOfWord", "()I"⟩, .code ⟨"SeamPullModel", "kindOfWord", "()I"⟩ prog_11_method_19_code 3 (some .int), .constantLong "SeamPullModel" 150 (1952539499), .constantLong "SeamPullModel" 152 (28526), .constantLong "SeamPullModel" 154 (1650549611), .constantLong "SeamPullModel" 156 (1936419184), .constantLong "SeamPullModel" 158 (126879297138276), .constantLong "SeamPullModel" 160 (128047779833188), .constantLong "SeamPullModel" 162 (439904988517), .constantLong "SeamPullModel" 164 (2002872692), .constantLong "SeamPullModel" 166 (427020086640), .constantLong "SeamPullModel" 168 (1718773093), .methodLink "SeamPullModel" 187 ⟨"SeamPullModel", "readAct", "(I)V"⟩, .instanceMethod ⟨"SeamPullModel", "readAct", "(I)V"⟩, .code ⟨"SeamPullModel", "readAct", "(I)V"⟩ prog_11_method_21_code 4 (none : Option Jvm.ClassFile.FieldType), .constantLong "SeamPullModel" 196 (108187649798757), .methodLink "SeamPullModel" 205 ⟨"SeamPullModel", "readBefore", "()V"⟩, .instanceMethod ⟨"SeamPullModel", "readBefore", "()V"⟩, .code ⟨"SeamPullModel", "readBefore", "()V"⟩ prog_11_method_23_code 3 (none : Option Jvm.ClassFile.FieldType), .constant "SeamPullModel" 211 (-1000100), .methodLink "SeamPullLaw" 47 ⟨"SeamPullModel", "fault", "()I"⟩, .instanceMethod ⟨"SeamPullModel", "fault", "()I"⟩, .selects "SeamPullModel" ⟨"SeamPullModel", "fault", "()I"⟩ ⟨"SeamPullModel", "fault", "()I"⟩, .code ⟨"SeamPullModel", "fault", "()I"⟩ prog_11_method_25_code 1 (some .int), .methodLink "SeamPullLaw" 52 ⟨"SeamPullModel", "act", "(II)I"⟩, .instanceMethod ⟨"SeamPullModel", "act", "(II)I"⟩, .selects "SeamPullModel" ⟨"SeamPullModel", "act", "(II)I"⟩ ⟨"SeamPullModel", "act", "(II)I"⟩, .code ⟨"SeamPullModel", "act", "(II)I"⟩ prog_11_method_28_code 3 (some .int), .methodLink "SeamPullModel" 228 ⟨"SeamPullModel", "isAct", "(I)Z"⟩, .instanceMethod ⟨"SeamPullModel", "isAct", "(I)Z"⟩, .code ⟨"SeamPullModel", "isAct", "(I)Z"⟩ prog_11_method_26_code 2 (some .boolean), .constantLong "SeamPullModel" 231 (3), .methodLink "SeamPullLaw" 56 ⟨"SeamPullModel", "open", "(II)I"⟩, .instanceMethod ⟨"SeamPullModel", "open", "(II)I"⟩, .selects "SeamPullModel" ⟨"SeamPullModel", "open", "(II)I"⟩ ⟨"SeamPullModel", "open", "(II)I"⟩, .code ⟨"SeamPullModel", "open", "(II)I"⟩ prog_11_method_29_code 4 (some .int), .methodLink "SeamPullModel" 233 ⟨"SeamPullModel", "isCell", "(I)Z"⟩, .instanceMethod ⟨"SeamPullModel", "isCell", "(I)Z"⟩, .code ⟨"SeamPullModel", "isCell", "(I)Z"⟩ prog_11_method_27_code 2 (some .boolean), .constantLong "SeamPullModel" 236 (-40), .constantLong "SeamPullModel" 238 (40), .methodLink "SeamPullLaw" 60 ⟨"SeamPullModel", "run", "(II)I"⟩, .instanceMethod ⟨"SeamPullModel", "run", "(II)I"⟩, .selects "SeamPullModel" ⟨"SeamPullModel", "run", "(II)I"⟩ ⟨"SeamPullModel", "run", "(II)I"⟩, .code ⟨"SeamPullModel", "run", "(II)I"⟩ prog_11_method_41_code 6 (some .int), .constant "SeamPullModel" 273 (-1000002), .methodLink "SeamPullModel" 274 ⟨"SeamPullModel", "layOpened", "()V"⟩, .instanceMethod ⟨"SeamPullModel", "layOpened", "()V"⟩]
set_option maxRecDepth 100000 in
theorem bgt_15 : ∀ w ∈ BG_15, w ∈ lw_tbl := bg_in [1168, 1169, 1170, 1172, 1173, 1174, 1176, 1177, 1178, 1180, 1181, 1182, 1183, 1185, 1186, 1187, 1189, 1190, 1191, 1192, 1193, 1194, 1195, 1196, 1197, 1198, 1199, 1200, 1201, 1203, 1204, 1205, 1206, 1208, 1209, 1210, 1211, 1212, 1213, 1214, 1215, 1216, 1217, 1218, 1219, 1221, 1222, 1223, 1224, 1225, 1226, 1227, 1228, 1230, 1231, 1232, 1233, 1234, 1235, 1236, 1237, 1238, 1239, 1241] (by decide +kernel)
theorem bgg_15 : BG_15.all goodWord = true := by decide +kernel
def BG_16 : List Cond := [.code ⟨"SeamPullModel", "layOpened", "()V"⟩ prog_11_method_39_code 2 (none : Option Jvm.ClassFile.FieldType), .methodLink "SeamPullModel" 277 ⟨"SeamPullModel", "go", "(I)V"⟩, .instanceMethod ⟨"SeamPullModel", "go", "(I)V"⟩, .code ⟨"SeamPullModel", "go", "(I)V"⟩ prog_11_method_36_code 4 (none : Option Jvm.ClassFile.FieldType), .constantLong "SeamPullModel" 259 (24), .constantLong "SeamPullModel" 261 (35), .methodLink "SeamPullModel" 263 ⟨"SeamPullModel", "doAct", "(I)V"⟩, .instanceMethod ⟨"SeamPullModel", "doAct", "(I)V"⟩, .code ⟨"SeamPullModel", "doAct", "(I)V"⟩ prog_11_method_35_code 5 (none : Option Jvm.ClassFile.FieldType), .methodLink "SeamPullModel" 249 ⟨"SeamPullModel", "minute", "()V"⟩, .instanceMethod ⟨"SeamPullModel", "minute", "()V"⟩, .code ⟨"SeamPullModel", "minute", "()V"⟩ prog_11_method_30_code 2 (none : Option Jvm.ClassFile.FieldType), .methodLink "SeamPullModel" 252 ⟨"SeamPullModel", "free", "(I)V"⟩, .instanceMethod ⟨"SeamPullModel", "free", "(I)V"⟩, .code ⟨"SeamPullModel", "free", "(I)V"⟩ prog_11_method_34_code 2 (none : Option Jvm.ClassFile.FieldType), .methodLink "SeamPullModel" 255 ⟨"SeamPullModel", "step", "(III)V"⟩, .instanceMethod ⟨"SeamPullModel", "step", "(III)V"⟩, .code ⟨"SeamPullModel", "step", "(III)V"⟩ prog_11_method_33_code 6 (none : Option Jvm.ClassFile.FieldType), .methodLink "SeamPullModel" 246 ⟨"SeamPullModel", "shrinks", "(III)I"⟩, .instanceMethod ⟨"SeamPullModel", "shrinks", "(III)I"⟩, .code ⟨"SeamPullModel", "shrinks", "(III)I"⟩ prog_11_method_32_code 5 (some .int), .methodLink "SeamPullModel" 243 ⟨"SeamPullModel", "holds", "(I)Z"⟩, .instanceMethod ⟨"SeamPullModel", "holds", "(I)Z"⟩, .code ⟨"SeamPullModel", "holds", "(I)Z"⟩ prog_11_method_31_code 2 (some .boolean), .methodLink "SeamPullModel" 280 ⟨"SeamPullModel", "stand", "()V"⟩, .instanceMethod ⟨"SeamPullModel", "stand", "()V"⟩, .code ⟨"SeamPullModel", "stand", "()V"⟩ prog_11_method_40_code 2 (none : Option Jvm.ClassFile.FieldType), .methodLink "SeamPullModel" 283 ⟨"SeamPullModel", "offBy", "()I"⟩, .instanceMethod ⟨"SeamPullModel", "offBy", "()I"⟩, .code ⟨"SeamPullModel", "offBy", "()I"⟩ prog_11_method_38_code 5 (some .int), .methodLink "SeamPullModel" 266 ⟨"SeamPullModel", "heightBy", "([II)I"⟩, .instanceMethod ⟨"SeamPullModel", "heightBy", "([II)I"⟩, .code ⟨"SeamPullModel", "heightBy", "([II)I"⟩ prog_11_method_37_code 6 (some .int), .methodLink "SeamPullLaw" 64 ⟨"SeamPullModel", "runs", "()I"⟩, .instanceMethod ⟨"SeamPullModel", "runs", "()I"⟩, .selects "SeamPullModel" ⟨"SeamPullModel", "runs", "()I"⟩ ⟨"SeamPullModel", "runs", "()I"⟩, .code ⟨"SeamPullModel", "runs", "()I"⟩ prog_11_method_43_code 1 (some .int), .methodLink "SeamPullModel" 286 ⟨"SeamPullModel", "layNumbers", "()V"⟩, .instanceMethod ⟨"SeamPullModel", "layNumbers", "()V"⟩, .code ⟨"SeamPullModel", "layNumbers", "()V"⟩ prog_11_method_42_code 2 (none : Option Jvm.ClassFile.FieldType), .methodLink "SeamPullLaw" 68 ⟨"SeamPullModel", "cell", "(II)I"⟩, .instanceMethod ⟨"SeamPullModel", "cell", "(II)I"⟩, .selects "SeamPullModel" ⟨"SeamPullModel", "cell", "(II)I"⟩ ⟨"SeamPullModel", "cell", "(II)I"⟩, .code ⟨"SeamPullModel", "cell", "(II)I"⟩ prog_11_method_45_code 3 (some .int), .methodLink "SeamPullModel" 289 ⟨"SeamPullModel", "layStanding", "()V"⟩, .instanceMethod ⟨"SeamPullModel", "layStanding", "()V"⟩, .code ⟨"SeamPullModel", "layStanding", "()V"⟩ prog_11_method_44_code 2 (none : Option Jvm.ClassFile.FieldType), .methodLink "SeamPullLaw" 72 ⟨"SeamPullModel", "height", "(I)I"⟩, .instanceMethod ⟨"SeamPullModel", "height", "(I)I"⟩, .selects "SeamPullModel" ⟨"SeamPullModel", "height", "(I)I"⟩ ⟨"SeamPullModel", "height", "(I)I"⟩, .code ⟨"SeamPullModel", "height", "(I)I"⟩ prog_11_method_46_code 2 (some .int), .methodLink "SeamPullLaw" 76 ⟨"SeamPullModel", "minutes", "()I"⟩, .instanceMethod ⟨"SeamPullModel", "minutes", "()I"⟩, .selects "SeamPullModel" ⟨"SeamPullModel", "minutes", "()I"⟩ ⟨"SeamPullModel", "minutes", "()I"⟩, .code ⟨"SeamPullModel", "minutes", "()I"⟩ prog_11_method_47_code 1 (some .int), .methodLink "SeamPullLaw" 80 ⟨"SeamPullModel", "gives", "(I)I"⟩, .instanceMethod ⟨"SeamPullModel", "gives", "(I)I"⟩, .selects "SeamPullModel" ⟨"SeamPullModel", "gives", "(I)I"⟩ ⟨"SeamPullModel", "gives", "(I)I"⟩, .code ⟨"SeamPullModel", "gives", "(I)I"⟩ prog_11_method_48_code 3 (some .int), .methodLink "SeamPullLaw" 84 ⟨"SeamPullModel", "best", "(I)I"⟩, .instanceMethod ⟨"SeamPullModel", "best", "(I)I"⟩, .selects "SeamPullModel" ⟨"SeamPullModel", "best", "(I)I"⟩ ⟨"SeamPullModel", "best", "(I)I"⟩, .code ⟨"SeamPullModel", "best", "(I)I"⟩ prog_11_method_51_code 6 (some .int), .methodLink "SeamPullModel" 292 ⟨"SeamPullModel", "fits", "()Z"⟩]
set_option maxRecDepth 100000 in
theorem bgt_16 : ∀ w ∈ BG_16, w ∈ lw_tbl := bg_in [1242, 1243, 1245, 1246, 1247, 1248, 1249, 1251, 1252, 1253, 1255, 1256, 1257, 1259, 1260, 1261, 1263, 1264, 1265, 1267, 1268, 1269, 1271, 1272, 1273, 1275, 1276, 1277, 1279, 1280, 1281, 1283, 1284, 1285, 1286, 1287, 1288, 1289, 1291, 1292, 1293, 1294, 1295, 1296, 1297, 1299, 1300, 1301, 1302, 1303, 1304, 1305, 1306, 1307, 1308, 1309, 1310, 1311, 1312, 1313, 1314, 1315, 1316, 1317] (by decide +kernel)
theorem bgg_16 : BG_16.all goodWord = true := by decide +kernel
def BG_17 : List Cond := [.instanceMethod ⟨"SeamPullModel", "fits", "()Z"⟩, .code ⟨"SeamPullModel", "fits", "()Z"⟩ prog_11_method_49_code 6 (some .boolean), .methodLink "SeamPullModel" 296 ⟨"SeamPullModel", "nextOrder", "()Z"⟩, .instanceMethod ⟨"SeamPullModel", "nextOrder", "()Z"⟩, .code ⟨"SeamPullModel", "nextOrder", "()Z"⟩ prog_11_method_50_code 6 (some .boolean), .methodLink "SeamPullLaw" 88 ⟨"SeamPullModel", "orders", "()I"⟩, .instanceMethod ⟨"SeamPullModel", "orders", "()I"⟩, .selects "SeamPullModel" ⟨"SeamPullModel", "orders", "()I"⟩ ⟨"SeamPullModel", "orders", "()I"⟩, .code ⟨"SeamPullModel", "orders", "()I"⟩ prog_11_method_52_code 3 (some .int), .methodLink "SeamPullLaw" 92 ⟨"SeamPullModel", "beforehand", "(I)I"⟩, .instanceMethod ⟨"SeamPullModel", "beforehand", "(I)I"⟩, .selects "SeamPullModel" ⟨"SeamPullModel", "beforehand", "(I)I"⟩ ⟨"SeamPullModel", "beforehand", "(I)I"⟩, .code ⟨"SeamPullModel", "beforehand", "(I)I"⟩ prog_11_method_54_code 4 (some .int), .methodLink "SeamPullModel" 299 ⟨"SeamPullModel", "setBy", "(I)I"⟩, .instanceMethod ⟨"SeamPullModel", "setBy", "(I)I"⟩, .code ⟨"SeamPullModel", "setBy", "(I)I"⟩ prog_11_method_53_code 4 (some .int), .methodLink "SeamPullLaw" 96 ⟨"SeamPullModel", "spots", "(II)I"⟩, .instanceMethod ⟨"SeamPullModel", "spots", "(II)I"⟩, .selects "SeamPullModel" ⟨"SeamPullModel", "spots", "(II)I"⟩ ⟨"SeamPullModel", "spots", "(II)I"⟩, .code ⟨"SeamPullModel", "spots", "(II)I"⟩ prog_11_method_56_code 8 (some .int), .constantLong "SeamPullModel" 302 (20), .methodLink "SeamPullModel" 304 ⟨"SeamPullModel", "flame", "(II)V"⟩, .instanceMethod ⟨"SeamPullModel", "flame", "(II)V"⟩, .code ⟨"SeamPullModel", "flame", "(II)V"⟩ prog_11_method_55_code 4 (none : Option Jvm.ClassFile.FieldType), .methodLink "SeamPullLaw" 100 ⟨"SeamPullModel", "crack", "(I)I"⟩, .instanceMethod ⟨"SeamPullModel", "crack", "(I)I"⟩, .selects "SeamPullModel" ⟨"SeamPullModel", "crack", "(I)I"⟩ ⟨"SeamPullModel", "crack", "(I)I"⟩, .code ⟨"SeamPullModel", "crack", "(I)I"⟩ prog_11_method_58_code 2 (some .int), .constantLong "SeamPullModel" 308 (60), .methodLink "SeamPullModel" 310 ⟨"SeamPullModel", "crackAt", "(I)I"⟩, .instanceMethod ⟨"SeamPullModel", "crackAt", "(I)I"⟩, .code ⟨"SeamPullModel", "crackAt", "(I)I"⟩ prog_11_method_57_code 3 (some .int), .methodLink "SeamPullLaw" 104 ⟨"SeamPullModel", "warm", "()I"⟩, .instanceMethod ⟨"SeamPullModel", "warm", "()I"⟩, .selects "SeamPullModel" ⟨"SeamPullModel", "warm", "()I"⟩ ⟨"SeamPullModel", "warm", "()I"⟩, .code ⟨"SeamPullModel", "warm", "()I"⟩ prog_11_method_59_code 2 (some .int), .methodLink "SeamPullLaw" 108 ⟨"SeamPullModel", "wire", "(III)I"⟩, .instanceMethod ⟨"SeamPullModel", "wire", "(III)I"⟩, .selects "SeamPullModel" ⟨"SeamPullModel", "wire", "(III)I"⟩ ⟨"SeamPullModel", "wire", "(III)I"⟩, .code ⟨"SeamPullModel", "wire", "(III)I"⟩ prog_11_method_61_code 8 (some .int), .constantLong "SeamPullModel" 313 (-1), .constantLong "SeamPullModel" 315 (-9999), .constantLong "SeamPullModel" 317 (9999), .methodLink "SeamPullModel" 319 ⟨"SeamPullModel", "bendBy", "(II)I"⟩, .instanceMethod ⟨"SeamPullModel", "bendBy", "(II)I"⟩, .code ⟨"SeamPullModel", "bendBy", "(II)I"⟩ prog_11_method_60_code 4 (some .int), .methodLink "SeamPullLaw" 112 ⟨"SeamPullModel", "kind", "(I)I"⟩, .instanceMethod ⟨"SeamPullModel", "kind", "(I)I"⟩, .selects "SeamPullModel" ⟨"SeamPullModel", "kind", "(I)I"⟩ ⟨"SeamPullModel", "kind", "(I)I"⟩, .code ⟨"SeamPullModel", "kind", "(I)I"⟩ prog_11_method_64_code 2 (some .int), .methodLink "SeamPullModel" 325 ⟨"SeamPullModel", "isStep", "(I)Z"⟩, .instanceMethod ⟨"SeamPullModel", "isStep", "(I)Z"⟩, .code ⟨"SeamPullModel", "isStep", "(I)Z"⟩ prog_11_method_62_code 2 (some .boolean), .methodLink "SeamPullLaw" 116 ⟨"SeamPullModel", "as", "(II)I"⟩, .instanceMethod ⟨"SeamPullModel", "as", "(II)I"⟩, .selects "SeamPullModel" ⟨"SeamPullModel", "as", "(II)I"⟩ ⟨"SeamPullModel", "as", "(II)I"⟩, .code ⟨"SeamPullModel", "as", "(II)I"⟩ prog_11_method_65_code 3 (some .int), .methodLink "SeamPullModel" 328 ⟨"SeamPullModel", "isOf", "(II)Z"⟩, .static ⟨"SeamPullModel", "isOf", "(II)Z"⟩, .code ⟨"SeamPullModel", "isOf", "(II)Z"⟩ prog_11_method_63_code 2 (some .boolean), .constantLong "SeamPullModel" 323 (6), .methodLink "SeamPullLaw" 120 ⟨"SeamPullModel", "ask", "(II)I"⟩, .instanceMethod ⟨"SeamPullModel", "ask", "(II)I"⟩, .selects "SeamPullModel" ⟨"SeamPullModel", "ask", "(II)I"⟩ ⟨"SeamPullModel", "ask", "(II)I"⟩]
set_option maxRecDepth 100000 in
theorem bgt_17 : ∀ w ∈ BG_17, w ∈ lw_tbl := bg_in [1319, 1320, 1321, 1323, 1324, 1325, 1326, 1327, 1328, 1329, 1330, 1331, 1332, 1333, 1335, 1336, 1337, 1338, 1339, 1340, 1341, 1342, 1344, 1345, 1346, 1347, 1348, 1349, 1350, 1351, 1353, 1354, 1355, 1356, 1357, 1358, 1359, 1360, 1361, 1362, 1363, 1364, 1365, 1366, 1368, 1369, 1370, 1371, 1372, 1373, 1374, 1376, 1377, 1378, 1379, 1380, 1381, 1382, 1383, 1384, 1385, 1386, 1387, 1388] (by decide +kernel)
theorem bgg_17 : BG_17.all goodWord = true := by decide +kernel
def BG_18 : List Cond := [.code ⟨"SeamPullModel", "ask", "(II)I"⟩ prog_11_method_70_code 3 (some .int), .methodLink "SeamPullModel" 344 ⟨"SeamPullModel", "sizeOf", "(II)I"⟩, .instanceMethod ⟨"SeamPullModel", "sizeOf", "(II)I"⟩, .code ⟨"SeamPullModel", "sizeOf", "(II)I"⟩ prog_11_method_69_code 5 (some .int), .methodLink "SeamPullModel" 338 ⟨"SeamPullModel", "flameSize", "(I)I"⟩, .instanceMethod ⟨"SeamPullModel", "flameSize", "(I)I"⟩, .code ⟨"SeamPullModel", "flameSize", "(I)I"⟩ prog_11_method_67_code 2 (some .int), .methodLink "SeamPullModel" 335 ⟨"SeamPullModel", "began", "(I)V"⟩, .instanceMethod ⟨"SeamPullModel", "began", "(I)V"⟩, .code ⟨"SeamPullModel", "began", "(I)V"⟩ prog_11_method_66_code 2 (none : Option Jvm.ClassFile.FieldType), .methodLink "SeamPullModel" 341 ⟨"SeamPullModel", "markOf", "(II)I"⟩, .instanceMethod ⟨"SeamPullModel", "markOf", "(II)I"⟩, .code ⟨"SeamPullModel", "markOf", "(II)I"⟩ prog_11_method_68_code 3 (some .int), .methodLink "SeamPullLaw" 124 ⟨"SeamPullModel", "trace", "(I)I"⟩, .instanceMethod ⟨"SeamPullModel", "trace", "(I)I"⟩, .selects "SeamPullModel" ⟨"SeamPullModel", "trace", "(I)I"⟩ ⟨"SeamPullModel", "trace", "(I)I"⟩, .code ⟨"SeamPullModel", "trace", "(I)I"⟩ prog_11_method_71_code 2 (some .int), .methodLink "SeamPullLaw" 128 ⟨"SeamPullModel", "count", "(I)I"⟩, .instanceMethod ⟨"SeamPullModel", "count", "(I)I"⟩, .selects "SeamPullModel" ⟨"SeamPullModel", "count", "(I)I"⟩ ⟨"SeamPullModel", "count", "(I)I"⟩, .code ⟨"SeamPullModel", "count", "(I)I"⟩ prog_11_method_72_code 4 (some .int), .methodLink "SeamPullLaw" 132 ⟨"SeamPullModel", "status", "()I"⟩, .instanceMethod ⟨"SeamPullModel", "status", "()I"⟩, .selects "SeamPullModel" ⟨"SeamPullModel", "status", "()I"⟩ ⟨"SeamPullModel", "status", "()I"⟩, .code ⟨"SeamPullModel", "status", "()I"⟩ prog_11_method_73_code 1 (some .int), .constantLong "SeamPullLaw" 32 (4294967295), .fieldLink "java/lang/String" 9 "java/lang/String" "value" "[B", .fieldLink "java/lang/String" 15 "java/lang/String" "coder" "B"]
set_option maxRecDepth 100000 in
theorem bgt_18 : ∀ w ∈ BG_18, w ∈ lw_tbl := bg_in [1389, 1390, 1392, 1393, 1394, 1396, 1397, 1398, 1400, 1401, 1402, 1404, 1405, 1406, 1407, 1408, 1409, 1410, 1411, 1412, 1413, 1414, 1415, 1416, 1417, 1418, 1419, 1420] (by decide +kernel)
theorem bgg_18 : BG_18.all goodWord = true := by decide +kernel
def BG : List Cond := BG_0 ++ (BG_1 ++ (BG_2 ++ (BG_3 ++ (BG_4 ++ (BG_5 ++ (BG_6 ++ (BG_7 ++ (BG_8 ++ (BG_9 ++ (BG_10 ++ (BG_11 ++ (BG_12 ++ (BG_13 ++ (BG_14 ++ (BG_15 ++ (BG_16 ++ (BG_17 ++ (BG_18))))))))))))))))))
theorem bgi_0 {w : Cond} (h : w ∈ BG_0) : w ∈ BG := List.mem_append_left _ h
theorem w0 {w : Cond} (i : Nat) (h : BG_0[i]? = some w) : w ∈ BG := bgi_0 (List.mem_of_getElem? h)
theorem bgi_1 {w : Cond} (h : w ∈ BG_1) : w ∈ BG := List.mem_append_right _ (List.mem_append_left _ h)
theorem w1 {w : Cond} (i : Nat) (h : BG_1[i]? = some w) : w ∈ BG := bgi_1 (List.mem_of_getElem? h)
theorem bgi_2 {w : Cond} (h : w ∈ BG_2) : w ∈ BG := List.mem_append_right _ (List.mem_append_right _ (List.mem_append_left _ h))
theorem w2 {w : Cond} (i : Nat) (h : BG_2[i]? = some w) : w ∈ BG := bgi_2 (List.mem_of_getElem? h)
theorem bgi_3 {w : Cond} (h : w ∈ BG_3) : w ∈ BG := List.mem_append_right _ (List.mem_append_right _ (List.mem_append_right _ (List.mem_append_left _ h)))
theorem w3 {w : Cond} (i : Nat) (h : BG_3[i]? = some w) : w ∈ BG := bgi_3 (List.mem_of_getElem? h)
theorem bgi_4 {w : Cond} (h : w ∈ BG_4) : w ∈ BG := List.mem_append_right _ (List.mem_append_right _ (List.mem_append_right _ (List.mem_append_right _ (List.mem_append_left _ h))))
theorem w4 {w : Cond} (i : Nat) (h : BG_4[i]? = some w) : w ∈ BG := bgi_4 (List.mem_of_getElem? h)
theorem bgi_5 {w : Cond} (h : w ∈ BG_5) : w ∈ BG := List.mem_append_right _ (List.mem_append_right _ (List.mem_append_right _ (List.mem_append_right _ (List.mem_append_right _ (List.mem_append_left _ h)))))
theorem w5 {w : Cond} (i : Nat) (h : BG_5[i]? = some w) : w ∈ BG := bgi_5 (List.mem_of_getElem? h)
theorem bgi_6 {w : Cond} (h : w ∈ BG_6) : w ∈ BG := List.mem_append_right _ (List.mem_append_right _ (List.mem_append_right _ (List.mem_append_right _ (List.mem_append_right _ (List.mem_append_right _ (List.mem_append_left _ h))))))
theorem w6 {w : Cond} (i : Nat) (h : BG_6[i]? = some w) : w ∈ BG := bgi_6 (List.mem_of_getElem? h)
theorem bgi_7 {w : Cond} (h : w ∈ BG_7) : w ∈ BG := List.mem_append_right _ (List.mem_append_right _ (List.mem_append_right _ (List.mem_append_right _ (List.mem_append_right _ (List.mem_append_right _ (List.mem_append_right _ (List.mem_append_left _ h)))))))
theorem w7 {w : Cond} (i : Nat) (h : BG_7[i]? = some w) : w ∈ BG := bgi_7 (List.mem_of_getElem? h)
theorem bgi_8 {w : Cond} (h : w ∈ BG_8) : w ∈ BG := List.mem_append_right _ (List.mem_append_right _ (List.mem_append_right _ (List.mem_append_right _ (List.mem_append_right _ (List.mem_append_right _ (List.mem_append_right _ (List.mem_append_right _ (List.mem_append_left _ h))))))))
theorem w8 {w : Cond} (i : Nat) (h : BG_8[i]? = some w) : w ∈ BG := bgi_8 (List.mem_of_getElem? h)
theorem bgi_9 {w : Cond} (h : w ∈ BG_9) : w ∈ BG := List.mem_append_right _ (List.mem_append_right _ (List.mem_append_right _ (List.mem_append_right _ (List.mem_append_right _ (List.mem_append_right _ (List.mem_append_right _ (List.mem_append_right _ (List.mem_append_right _ (List.mem_append_left _ h)))))))))
theorem w9 {w : Cond} (i : Nat) (h : BG_9[i]? = some w) : w ∈ BG := bgi_9 (List.mem_of_getElem? h)
theorem bgi_10 {w : Cond} (h : w ∈ BG_10) : w ∈ BG := List.mem_append_right _ (List.mem_append_right _ (List.mem_append_right _ (List.mem_append_right _ (List.mem_append_right _ (List.mem_append_right _ (List.mem_append_right _ (List.mem_append_right _ (List.mem_append_right _ (List.mem_append_right _ (List.mem_append_left _ h))))))))))
theorem w10 {w : Cond} (i : Nat) (h : BG_10[i]? = some w) : w ∈ BG := bgi_10 (List.mem_of_getElem? h)
theorem bgi_11 {w : Cond} (h : w ∈ BG_11) : w ∈ BG := List.mem_append_right _ (List.mem_append_right _ (List.mem_append_right _ (List.mem_append_right _ (List.mem_append_right _ (List.mem_append_right _ (List.mem_append_right _ (List.mem_append_right _ (List.mem_append_right _ (List.mem_append_right _ (List.mem_append_right _ (List.mem_append_left _ h)))))))))))
theorem w11 {w : Cond} (i : Nat) (h : BG_11[i]? = some w) : w ∈ BG := bgi_11 (List.mem_of_getElem? h)
theorem bgi_12 {w : Cond} (h : w ∈ BG_12) : w ∈ BG := List.mem_append_right _ (List.mem_append_right _ (List.mem_append_right _ (List.mem_append_right _ (List.mem_append_right _ (List.mem_append_right _ (List.mem_append_right _ (List.mem_append_right _ (List.mem_append_right _ (List.mem_append_right _ (List.mem_append_right _ (List.mem_append_right _ (List.mem_append_left _ h))))))))))))
theorem w12 {w : Cond} (i : Nat) (h : BG_12[i]? = some w) : w ∈ BG := bgi_12 (List.mem_of_getElem? h)
theorem bgi_13 {w : Cond} (h : w ∈ BG_13) : w ∈ BG := List.mem_append_right _ (List.mem_append_right _ (List.mem_append_right _ (List.mem_append_right _ (List.mem_append_right _ (List.mem_append_right _ (List.mem_append_right _ (List.mem_append_right _ (List.mem_append_right _ (List.mem_append_right _ (List.mem_append_right _ (List.mem_append_right _ (List.mem_append_right _ (List.mem_append_left _ h)))))))))))))
theorem w13 {w : Cond} (i : Nat) (h : BG_13[i]? = some w) : w ∈ BG := bgi_13 (List.mem_of_getElem? h)
theorem bgi_14 {w : Cond} (h : w ∈ BG_14) : w ∈ BG := List.mem_append_right _ (List.mem_append_right _ (List.mem_append_right _ (List.mem_append_right _ (List.mem_append_right _ (List.mem_append_right _ (List.mem_append_right _ (List.mem_append_right _ (List.mem_append_right _ (List.mem_append_right _ (List.mem_append_right _ (List.mem_append_right _ (List.mem_append_right _ (List.mem_append_right _ (List.mem_append_left _ h))))))))))))))
theorem w14 {w : Cond} (i : Nat) (h : BG_14[i]? = some w) : w ∈ BG := bgi_14 (List.mem_of_getElem? h)
theorem bgi_15 {w : Cond} (h : w ∈ BG_15) : w ∈ BG := List.mem_append_right _ (List.mem_append_right _ (List.mem_append_right _ (List.mem_append_right _ (List.mem_append_right _ (List.mem_append_right _ (List.mem_append_right _ (List.mem_append_right _ (List.mem_append_right _ (List.mem_append_right _ (List.mem_append_right _ (List.mem_append_right _ (List.mem_append_right _ (List.mem_append_right _ (List.mem_append_right _ (List.mem_append_left _ h)))))))))))))))
theorem w15 {w : Cond} (i : Nat) (h : BG_15[i]? = some w) : w ∈ BG := bgi_15 (List.mem_of_getElem? h)
theorem bgi_16 {w : Cond} (h : w ∈ BG_16) : w ∈ BG := List.mem_append_right _ (List.mem_append_right _ (List.mem_append_right _ (List.mem_append_right _ (List.mem_append_right _ (List.mem_append_right _ (List.mem_append_right _ (List.mem_append_right _ (List.mem_append_right _ (List.mem_append_right _ (List.mem_append_right _ (List.mem_append_right _ (List.mem_append_right _ (List.mem_append_right _ (List.mem_append_right _ (List.mem_append_right _ (List.mem_append_left _ h))))))))))))))))
theorem w16 {w : Cond} (i : Nat) (h : BG_16[i]? = some w) : w ∈ BG := bgi_16 (List.mem_of_getElem? h)
theorem bgi_17 {w : Cond} (h : w ∈ BG_17) : w ∈ BG := List.mem_append_right _ (List.mem_append_right _ (List.mem_append_right _ (List.mem_append_right _ (List.mem_append_right _ (List.mem_append_right _ (List.mem_append_right _ (List.mem_append_right _ (List.mem_append_right _ (List.mem_append_right _ (List.mem_append_right _ (List.mem_append_right _ (List.mem_append_right _ (List.mem_append_right _ (List.mem_append_right _ (List.mem_append_right _ (List.mem_append_right _ (List.mem_append_left _ h)))))))))))))))))
theorem w17 {w : Cond} (i : Nat) (h : BG_17[i]? = some w) : w ∈ BG := bgi_17 (List.mem_of_getElem? h)
theorem bgi_18 {w : Cond} (h : w ∈ BG_18) : w ∈ BG := List.mem_append_right _ (List.mem_append_right _ (List.mem_append_right _ (List.mem_append_right _ (List.mem_append_right _ (List.mem_append_right _ (List.mem_append_right _ (List.mem_append_right _ (List.mem_append_right _ (List.mem_append_right _ (List.mem_append_right _ (List.mem_append_right _ (List.mem_append_right _ (List.mem_append_right _ (List.mem_append_right _ (List.mem_append_right _ (List.mem_append_right _ (List.mem_append_right _ (h))))))))))))))))))
theorem w18 {w : Cond} (i : Nat) (h : BG_18[i]? = some w) : w ∈ BG := bgi_18 (List.mem_of_getElem? h)
theorem bg_tbl : ∀ w ∈ BG, w ∈ lw_tbl := List.forall_mem_append.mpr ⟨bgt_0, List.forall_mem_append.mpr ⟨bgt_1, List.forall_mem_append.mpr ⟨bgt_2, List.forall_mem_append.mpr ⟨bgt_3, List.forall_mem_append.mpr ⟨bgt_4, List.forall_mem_append.mpr ⟨bgt_5, List.forall_mem_append.mpr ⟨bgt_6, List.forall_mem_append.mpr ⟨bgt_7, List.forall_mem_append.mpr ⟨bgt_8, List.forall_mem_append.mpr ⟨bgt_9, List.forall_mem_append.mpr ⟨bgt_10, List.forall_mem_append.mpr ⟨bgt_11, List.forall_mem_append.mpr ⟨bgt_12, List.forall_mem_append.mpr ⟨bgt_13, List.forall_mem_append.mpr ⟨bgt_14, List.forall_mem_append.mpr ⟨bgt_15, List.forall_mem_append.mpr ⟨bgt_16, List.forall_mem_append.mpr ⟨bgt_17, bgt_18⟩⟩⟩⟩⟩⟩⟩⟩⟩⟩⟩⟩⟩⟩⟩⟩⟩⟩
theorem bgh_0 : ∀ w ∈ BG_0, goodWord w = true := fun w h => List.all_eq_true.mp bgg_0 w h
theorem bgh_1 : ∀ w ∈ BG_1, goodWord w = true := fun w h => List.all_eq_true.mp bgg_1 w h
theorem bgh_2 : ∀ w ∈ BG_2, goodWord w = true := fun w h => List.all_eq_true.mp bgg_2 w h
theorem bgh_3 : ∀ w ∈ BG_3, goodWord w = true := fun w h => List.all_eq_true.mp bgg_3 w h
theorem bgh_4 : ∀ w ∈ BG_4, goodWord w = true := fun w h => List.all_eq_true.mp bgg_4 w h
theorem bgh_5 : ∀ w ∈ BG_5, goodWord w = true := fun w h => List.all_eq_true.mp bgg_5 w h
theorem bgh_6 : ∀ w ∈ BG_6, goodWord w = true := fun w h => List.all_eq_true.mp bgg_6 w h
theorem bgh_7 : ∀ w ∈ BG_7, goodWord w = true := fun w h => List.all_eq_true.mp bgg_7 w h
theorem bgh_8 : ∀ w ∈ BG_8, goodWord w = true := fun w h => List.all_eq_true.mp bgg_8 w h
theorem bgh_9 : ∀ w ∈ BG_9, goodWord w = true := fun w h => List.all_eq_true.mp bgg_9 w h
theorem bgh_10 : ∀ w ∈ BG_10, goodWord w = true := fun w h => List.all_eq_true.mp bgg_10 w h
theorem bgh_11 : ∀ w ∈ BG_11, goodWord w = true := fun w h => List.all_eq_true.mp bgg_11 w h
theorem bgh_12 : ∀ w ∈ BG_12, goodWord w = true := fun w h => List.all_eq_true.mp bgg_12 w h
theorem bgh_13 : ∀ w ∈ BG_13, goodWord w = true := fun w h => List.all_eq_true.mp bgg_13 w h
theorem bgh_14 : ∀ w ∈ BG_14, goodWord w = true := fun w h => List.all_eq_true.mp bgg_14 w h
theorem bgh_15 : ∀ w ∈ BG_15, goodWord w = true := fun w h => List.all_eq_true.mp bgg_15 w h
theorem bgh_16 : ∀ w ∈ BG_16, goodWord w = true := fun w h => List.all_eq_true.mp bgg_16 w h
theorem bgh_17 : ∀ w ∈ BG_17, goodWord w = true := fun w h => List.all_eq_true.mp bgg_17 w h
theorem bgh_18 : ∀ w ∈ BG_18, goodWord w = true := fun w h => List.all_eq_true.mp bgg_18 w h
theorem bg_good : ∀ w ∈ BG, goodWord w = true := List.forall_mem_append.mpr ⟨bgh_0, List.forall_mem_append.mpr ⟨bgh_1, List.forall_mem_append.mpr ⟨bgh_2, List.forall_mem_append.mpr ⟨bgh_3, List.forall_mem_append.mpr ⟨bgh_4, List.forall_mem_append.mpr ⟨bgh_5, List.forall_mem_append.mpr ⟨bgh_6, List.forall_mem_append.mpr ⟨bgh_7, List.forall_mem_append.mpr ⟨bgh_8, List.forall_mem_append.mpr ⟨bgh_9, List.forall_mem_append.mpr ⟨bgh_10, List.forall_mem_append.mpr ⟨bgh_11, List.forall_mem_append.mpr ⟨bgh_12, List.forall_mem_append.mpr ⟨bgh_13, List.forall_mem_append.mpr ⟨bgh_14, List.forall_mem_append.mpr ⟨bgh_15, List.forall_mem_append.mpr ⟨bgh_16, List.forall_mem_append.mpr ⟨bgh_17, bgh_18⟩⟩⟩⟩⟩⟩⟩⟩⟩⟩⟩⟩⟩⟩⟩⟩⟩⟩
theorem bg_in_self (y : MethodName) (c : ByteArray) (n : Nat) (r : Option FieldType) : ∀ w ∈ BG, w ∈ Cond.code y c n r :: BG := fun _ h => List.mem_cons_of_mem _ h
set_option maxRecDepth 100000 in
theorem inbX0 : ∀ w ∈ u_ws RX0 TX0 2, w ∈ BG := by
  have h : u_ws RX0 TX0 2 = [.laysFinal "SeamPull$Asks" "SeamPull$Asks" "begun" "[I", .lays "SeamPull$Asks" "SeamPull$Asks" "many" "I"] := by decide +kernel
  rw [h]
  exact List.forall_mem_cons.mpr ⟨w3 10 rfl, List.forall_mem_cons.mpr ⟨w3 11 rfl, fun _ h => absurd h List.not_mem_nil⟩⟩
set_option maxRecDepth 100000 in
theorem inbX1 : ∀ w ∈ u_ws RX1 TX1 3, w ∈ BG := by
  have h : u_ws RX1 TX1 3 = [.laysFinal "SeamPull$Beforehand" "SeamPull$Beforehand" "bends" "[I", .laysFinal "SeamPull$Beforehand" "SeamPull$Beforehand" "alike" "[I", .lays "SeamPull$Beforehand" "SeamPull$Beforehand" "known" "Z"] := by decide +kernel
  rw [h]
  exact List.forall_mem_cons.mpr ⟨w3 0 rfl, List.forall_mem_cons.mpr ⟨w3 1 rfl, List.forall_mem_cons.mpr ⟨w3 2 rfl, fun _ h => absurd h List.not_mem_nil⟩⟩⟩
set_option maxRecDepth 100000 in
theorem inbX2 : ∀ w ∈ u_ws RX2 TX2 10, w ∈ BG := by
  have h : u_ws RX2 TX2 10 = [.laysFinal "SeamPull$Panel" "SeamPull$Panel" "heat" "[I", .laysFinal "SeamPull$Panel" "SeamPull$Panel" "heatTime" "[I", .laysFinal "SeamPull$Panel" "SeamPull$Panel" "hold" "[I", .laysFinal "SeamPull$Panel" "SeamPull$Panel" "bend" "[I", .laysFinal "SeamPull$Panel" "SeamPull$Panel" "spring" "[I", .laysFinal "SeamPull$Panel" "SeamPull$Panel" "shrunk" "[I", .lays "SeamPull$Panel" "SeamPull$Panel" "clampBits" "I", .lays "SeamPull$Panel" "SeamPull$Panel" "cells" "I", .lays "SeamPull$Panel" "SeamPull$Panel" "minutes" "I", .lays "SeamPull$Panel" "SeamPull$Panel" "allShrunk" "I"] := by decide +kernel
  rw [h]
  exact List.forall_mem_cons.mpr ⟨w2 25 rfl, List.forall_mem_cons.mpr ⟨w2 26 rfl, List.forall_mem_cons.mpr ⟨w2 27 rfl, List.forall_mem_cons.mpr ⟨w2 28 rfl, List.forall_mem_cons.mpr ⟨w2 29 rfl, List.forall_mem_cons.mpr ⟨w2 30 rfl, List.forall_mem_cons.mpr ⟨w2 31 rfl, List.forall_mem_cons.mpr ⟨w2 32 rfl, List.forall_mem_cons.mpr ⟨w2 33 rfl, List.forall_mem_cons.mpr ⟨w2 34 rfl, fun _ h => absurd h List.not_mem_nil⟩⟩⟩⟩⟩⟩⟩⟩⟩⟩
set_option maxRecDepth 100000 in
theorem inbX3 : ∀ w ∈ u_ws RX3 TX3 10, w ∈ BG := by
  have h : u_ws RX3 TX3 10 = [.lays "SeamPull$Plan" "SeamPull$Plan" "cells" "I", .lays "SeamPull$Plan" "SeamPull$Plan" "seams" "I", .lays "SeamPull$Plan" "SeamPull$Plan" "acts" "I", .lays "SeamPull$Plan" "SeamPull$Plan" "befores" "I", .laysFinal "SeamPull$Plan" "SeamPull$Plan" "actKind" "[I", .laysFinal "SeamPull$Plan" "SeamPull$Plan" "actPlace" "[I", .laysFinal "SeamPull$Plan" "SeamPull$Plan" "actStrength" "[I", .laysFinal "SeamPull$Plan" "SeamPull$Plan" "actSeam" "[I", .laysFinal "SeamPull$Plan" "SeamPull$Plan" "seamEnd" "[I", .laysFinal "SeamPull$Plan" "SeamPull$Plan" "needs" "[I"] := by decide +kernel
  rw [h]
  exact List.forall_mem_cons.mpr ⟨w3 27 rfl, List.forall_mem_cons.mpr ⟨w3 28 rfl, List.forall_mem_cons.mpr ⟨w3 29 rfl, List.forall_mem_cons.mpr ⟨w3 30 rfl, List.forall_mem_cons.mpr ⟨w3 31 rfl, List.forall_mem_cons.mpr ⟨w3 32 rfl, List.forall_mem_cons.mpr ⟨w3 33 rfl, List.forall_mem_cons.mpr ⟨w3 34 rfl, List.forall_mem_cons.mpr ⟨w3 35 rfl, List.forall_mem_cons.mpr ⟨w3 36 rfl, fun _ h => absurd h List.not_mem_nil⟩⟩⟩⟩⟩⟩⟩⟩⟩⟩
set_option maxRecDepth 100000 in
theorem inbX4 : ∀ w ∈ u_ws RX4 TX4 2, w ∈ BG := by
  have h : u_ws RX4 TX4 2 = [.laysFinal "SeamPull$Reader" "SeamPull$Reader" "tape" "LSeamPull$Tape;", .lays "SeamPull$Reader" "SeamPull$Reader" "taken" "I"] := by decide +kernel
  rw [h]
  exact List.forall_mem_cons.mpr ⟨w2 8 rfl, List.forall_mem_cons.mpr ⟨w2 9 rfl, fun _ h => absurd h List.not_mem_nil⟩⟩
set_option maxRecDepth 100000 in
theorem inbX5 : ∀ w ∈ u_ws RX5 TX5 7, w ∈ BG := by
  have h : u_ws RX5 TX5 7 = [.laysFinal "SeamPull$Search" "SeamPull$Search" "panels" "[LSeamPull$Panel;", .laysFinal "SeamPull$Search" "SeamPull$Search" "tried" "[I", .laysFinal "SeamPull$Search" "SeamPull$Search" "nearest" "[I", .laysFinal "SeamPull$Search" "SeamPull$Search" "ways" "[I", .lays "SeamPull$Search" "SeamPull$Search" "known" "Z", .lays "SeamPull$Search" "SeamPull$Search" "fits" "Z", .lays "SeamPull$Search" "SeamPull$Search" "leastOff" "I"] := by decide +kernel
  rw [h]
  exact List.forall_mem_cons.mpr ⟨w2 49 rfl, List.forall_mem_cons.mpr ⟨w2 50 rfl, List.forall_mem_cons.mpr ⟨w2 51 rfl, List.forall_mem_cons.mpr ⟨w2 52 rfl, List.forall_mem_cons.mpr ⟨w2 53 rfl, List.forall_mem_cons.mpr ⟨w2 54 rfl, List.forall_mem_cons.mpr ⟨w2 55 rfl, fun _ h => absurd h List.not_mem_nil⟩⟩⟩⟩⟩⟩⟩
set_option maxRecDepth 100000 in
theorem inbX6 : ∀ w ∈ u_ws RX6 TX6 3, w ∈ BG := by
  have h : u_ws RX6 TX6 3 = [.laysFinal "SeamPull$Shelf" "SeamPull$Shelf" "lanes" "[I", .laysFinal "SeamPull$Shelf" "SeamPull$Shelf" "sizes" "[I", .laysFinal "SeamPull$Shelf" "SeamPull$Shelf" "items" "[[I"] := by decide +kernel
  rw [h]
  exact List.forall_mem_cons.mpr ⟨w1 44 rfl, List.forall_mem_cons.mpr ⟨w1 45 rfl, List.forall_mem_cons.mpr ⟨w1 46 rfl, fun _ h => absurd h List.not_mem_nil⟩⟩⟩
set_option maxRecDepth 100000 in
theorem inbX7 : ∀ w ∈ u_ws RX7 TX7 5, w ∈ BG := by
  have h : u_ws RX7 TX7 5 = [.laysFinal "SeamPull$Tape" "SeamPull$Tape" "bytes" "[B", .lays "SeamPull$Tape" "SeamPull$Tape" "size" "I", .lays "SeamPull$Tape" "SeamPull$Tape" "start" "I", .lays "SeamPull$Tape" "SeamPull$Tape" "end" "I", .lays "SeamPull$Tape" "SeamPull$Tape" "sort" "I"] := by decide +kernel
  rw [h]
  exact List.forall_mem_cons.mpr ⟨w1 58 rfl, List.forall_mem_cons.mpr ⟨w1 59 rfl, List.forall_mem_cons.mpr ⟨w1 60 rfl, List.forall_mem_cons.mpr ⟨w1 61 rfl, List.forall_mem_cons.mpr ⟨w1 62 rfl, fun _ h => absurd h List.not_mem_nil⟩⟩⟩⟩⟩
set_option maxRecDepth 100000 in
theorem inbX8 : ∀ w ∈ u_ws RX8 TX8 16, w ∈ BG := by
  have h : u_ws RX8 TX8 16 = [.laysFinal "SeamPull" "SeamPull" "shelf" "LSeamPull$Shelf;", .laysFinal "SeamPull" "SeamPull" "tape" "LSeamPull$Tape;", .laysFinal "SeamPull" "SeamPull" "reader" "LSeamPull$Reader;", .laysFinal "SeamPull" "SeamPull" "setTo" "[I", .laysFinal "SeamPull" "SeamPull" "order" "[I", .laysFinal "SeamPull" "SeamPull" "row" "[I", .laysFinal "SeamPull" "SeamPull" "latest" "LSeamPull$Panel;", .laysFinal "SeamPull" "SeamPull" "trial" "LSeamPull$Panel;", .laysFinal "SeamPull" "SeamPull" "search" "LSeamPull$Search;", .laysFinal "SeamPull" "SeamPull" "ahead" "LSeamPull$Beforehand;", .laysFinal "SeamPull" "SeamPull" "asks" "LSeamPull$Asks;", .lays "SeamPull" "SeamPull" "plan" "LSeamPull$Plan;", .lays "SeamPull" "SeamPull" "draft" "LSeamPull$Plan;", .lays "SeamPull" "SeamPull" "ran" "Z", .lays "SeamPull" "SeamPull" "latestFault" "I", .lays "SeamPull" "SeamPull" "latestFinding" "I"] := by decide +kernel
  rw [h]
  exact List.forall_mem_cons.mpr ⟨w3 53 rfl, List.forall_mem_cons.mpr ⟨w3 54 rfl, List.forall_mem_cons.mpr ⟨w3 55 rfl, List.forall_mem_cons.mpr ⟨w3 56 rfl, List.forall_mem_cons.mpr ⟨w3 57 rfl, List.forall_mem_cons.mpr ⟨w3 58 rfl, List.forall_mem_cons.mpr ⟨w3 59 rfl, List.forall_mem_cons.mpr ⟨w3 60 rfl, List.forall_mem_cons.mpr ⟨w3 61 rfl, List.forall_mem_cons.mpr ⟨w3 62 rfl, List.forall_mem_cons.mpr ⟨w3 63 rfl, List.forall_mem_cons.mpr ⟨w4 0 rfl, List.forall_mem_cons.mpr ⟨w4 1 rfl, List.forall_mem_cons.mpr ⟨w4 2 rfl, List.forall_mem_cons.mpr ⟨w4 3 rfl, List.forall_mem_cons.mpr ⟨w4 4 rfl, fun _ h => absurd h List.not_mem_nil⟩⟩⟩⟩⟩⟩⟩⟩⟩⟩⟩⟩⟩⟩⟩⟩
set_option maxRecDepth 100000 in
theorem inbX9 : ∀ w ∈ u_ws RX9 TX9 43, w ∈ BG := by
  have h : u_ws RX9 TX9 43 = [.lays "SeamPullModel" "SeamPullModel" "thrown" "I", .lays "SeamPullModel" "SeamPullModel" "status" "I", .laysFinal "SeamPullModel" "SeamPullModel" "lane" "[I", .laysFinal "SeamPullModel" "SeamPullModel" "many" "[I", .laysFinal "SeamPullModel" "SeamPullModel" "item" "[I", .lays "SeamPullModel" "SeamPullModel" "cells" "I", .lays "SeamPullModel" "SeamPullModel" "seams" "I", .lays "SeamPullModel" "SeamPullModel" "acts" "I", .lays "SeamPullModel" "SeamPullModel" "befores" "I", .laysFinal "SeamPullModel" "SeamPullModel" "act" "[I", .laysFinal "SeamPullModel" "SeamPullModel" "ahead" "[I", .laysFinal "SeamPullModel" "SeamPullModel" "behind" "[I", .lays "SeamPullModel" "SeamPullModel" "newCells" "I", .lays "SeamPullModel" "SeamPullModel" "newSeams" "I", .lays "SeamPullModel" "SeamPullModel" "newActs" "I", .lays "SeamPullModel" "SeamPullModel" "newBefores" "I", .laysFinal "SeamPullModel" "SeamPullModel" "newAct" "[I", .laysFinal "SeamPullModel" "SeamPullModel" "newAhead" "[I", .laysFinal "SeamPullModel" "SeamPullModel" "newBehind" "[I", .laysFinal "SeamPullModel" "SeamPullModel" "tape" "[I", .lays "SeamPullModel" "SeamPullModel" "taped" "I", .lays "SeamPullModel" "SeamPullModel" "latest" "I", .lays "SeamPullModel" "SeamPullModel" "length" "I", .lays "SeamPullModel" "SeamPullModel" "cursor" "I", .lays "SeamPullModel" "SeamPullModel" "token" "I", .lays "SeamPullModel" "SeamPullModel" "from" "I", .lays "SeamPullModel" "SeamPullModel" "till" "I", .lays "SeamPullModel" "SeamPullModel" "fault" "I", .lays "SeamPullModel" "SeamPullModel" "faultAt" "I", .laysFinal "SeamPullModel" "SeamPullModel" "opened" "[I", .laysFinal "SeamPullModel" "SeamPullModel" "lastOrder" "[I", .lays "SeamPullModel" "SeamPullModel" "isRun" "Z", .laysFinal "SeamPullModel" "SeamPullModel" "now" "[I", .laysFinal "SeamPullModel" "SeamPullModel" "spring" "[I", .laysFinal "SeamPullModel" "SeamPullModel" "isClamped" "[Z", .lays "SeamPullModel" "SeamPullModel" "went" "I", .laysFinal "SeamPullModel" "SeamPullModel" "left" "[I", .lays "SeamPullModel" "SeamPullModel" "leftMinutes" "I", .laysFinal "SeamPullModel" "SeamPullModel" "begins" "[I", .laysFinal "SeamPullModel" "SeamPullModel" "order" "[I", .laysFinal "SeamPullModel" "SeamPullModel" "bestOrder" "[I", .laysFinal "SeamPullModel" "SeamPullModel" "trace" "[I", .lays "SeamPullModel" "SeamPullModel" "traced" "I"] := by decide +kernel
  rw [h]
  exact List.forall_mem_cons.mpr ⟨w13 26 rfl, List.forall_mem_cons.mpr ⟨w13 27 rfl, List.forall_mem_cons.mpr ⟨w13 28 rfl, List.forall_mem_cons.mpr ⟨w13 29 rfl, List.forall_mem_cons.mpr ⟨w13 30 rfl, List.forall_mem_cons.mpr ⟨w13 31 rfl, List.forall_mem_cons.mpr ⟨w13 32 rfl, List.forall_mem_cons.mpr ⟨w13 33 rfl, List.forall_mem_cons.mpr ⟨w13 34 rfl, List.forall_mem_cons.mpr ⟨w13 35 rfl, List.forall_mem_cons.mpr ⟨w13 36 rfl, List.forall_mem_cons.mpr ⟨w13 37 rfl, List.forall_mem_cons.mpr ⟨w13 38 rfl, List.forall_mem_cons.mpr ⟨w13 39 rfl, List.forall_mem_cons.mpr ⟨w13 40 rfl, List.forall_mem_cons.mpr ⟨w13 41 rfl, List.forall_mem_cons.mpr ⟨w13 42 rfl, List.forall_mem_cons.mpr ⟨w13 43 rfl, List.forall_mem_cons.mpr ⟨w13 44 rfl, List.forall_mem_cons.mpr ⟨w13 45 rfl, List.forall_mem_cons.mpr ⟨w13 46 rfl, List.forall_mem_cons.mpr ⟨w13 47 rfl, List.forall_mem_cons.mpr ⟨w13 48 rfl, List.forall_mem_cons.mpr ⟨w13 49 rfl, List.forall_mem_cons.mpr ⟨w13 50 rfl, List.forall_mem_cons.mpr ⟨w13 51 rfl, List.forall_mem_cons.mpr ⟨w13 52 rfl, List.forall_mem_cons.mpr ⟨w13 53 rfl, List.forall_mem_cons.mpr ⟨w13 54 rfl, List.forall_mem_cons.mpr ⟨w13 55 rfl, List.forall_mem_cons.mpr ⟨w13 56 rfl, List.forall_mem_cons.mpr ⟨w13 57 rfl, List.forall_mem_cons.mpr ⟨w13 58 rfl, List.forall_mem_cons.mpr ⟨w13 59 rfl, List.forall_mem_cons.mpr ⟨w13 60 rfl, List.forall_mem_cons.mpr ⟨w13 61 rfl, List.forall_mem_cons.mpr ⟨w13 62 rfl, List.forall_mem_cons.mpr ⟨w13 63 rfl, List.forall_mem_cons.mpr ⟨w14 0 rfl, List.forall_mem_cons.mpr ⟨w14 1 rfl, List.forall_mem_cons.mpr ⟨w14 2 rfl, List.forall_mem_cons.mpr ⟨w14 3 rfl, List.forall_mem_cons.mpr ⟨w14 4 rfl, fun _ h => absurd h List.not_mem_nil⟩⟩⟩⟩⟩⟩⟩⟩⟩⟩⟩⟩⟩⟩⟩⟩⟩⟩⟩⟩⟩⟩⟩⟩⟩⟩⟩⟩⟩⟩⟩⟩⟩⟩⟩⟩⟩⟩⟩⟩⟩⟩⟩
end
section
theorem dX0_init_0 : decode cX0_init 0 = .ok (.aload_n 0, 1) := by decide +kernel
theorem dX0_init_1 : decode cX0_init 1 = .ok (.invokespecial 3, 3) := by decide +kernel
theorem dX0_init_4 : decode cX0_init 4 = .ok (.aload_n 0, 1) := by decide +kernel
theorem dX0_init_5 : decode cX0_init 5 = .ok (.bipush 16, 2) := by decide +kernel
theorem dX0_init_7 : decode cX0_init 7 = .ok (.newarray .int, 2) := by decide +kernel
theorem dX0_init_9 : decode cX0_init 9 = .ok (.putfield 11, 3) := by decide +kernel
theorem dX0_init_12 : decode cX0_init 12 = .ok (.aload_n 0, 1) := by decide +kernel
theorem dX0_init_13 : decode cX0_init 13 = .ok (.iconst 0, 1) := by decide +kernel
theorem dX0_init_14 : decode cX0_init 14 = .ok (.putfield 15, 3) := by decide +kernel
theorem dX0_init_17 : decode cX0_init 17 = .ok (.return_, 1) := by decide +kernel
theorem dX0_hasKind_0 : decode cX0_hasKind 0 = .ok (.iload_n 0, 1) := by decide +kernel
theorem dX0_hasKind_1 : decode cX0_hasKind 1 = .ok (.ifCond .lt 13, 3) := by decide +kernel
theorem dX0_hasKind_4 : decode cX0_hasKind 4 = .ok (.iload_n 0, 1) := by decide +kernel
theorem dX0_hasKind_5 : decode cX0_hasKind 5 = .ok (.bipush 8, 2) := by decide +kernel
theorem dX0_hasKind_7 : decode cX0_hasKind 7 = .ok (.if_icmp .ge 7, 3) := by decide +kernel
theorem dX0_hasKind_10 : decode cX0_hasKind 10 = .ok (.iconst 1, 1) := by decide +kernel
theorem dX0_hasKind_11 : decode cX0_hasKind 11 = .ok (.goto 4, 3) := by decide +kernel
theorem dX0_hasKind_14 : decode cX0_hasKind 14 = .ok (.iconst 0, 1) := by decide +kernel
theorem dX0_hasKind_15 : decode cX0_hasKind 15 = .ok (.ireturn, 1) := by decide +kernel
theorem dX0_isOfKind_0 : decode cX0_isOfKind 0 = .ok (.iload_n 0, 1) := by decide +kernel
theorem dX0_isOfKind_1 : decode cX0_isOfKind 1 = .ok (.istore_n 2, 1) := by decide +kernel
theorem dX0_isOfKind_2 : decode cX0_isOfKind 2 = .ok (.iconst 0, 1) := by decide +kernel
theorem dX0_isOfKind_3 : decode cX0_isOfKind 3 = .ok (.istore_n 3, 1) := by decide +kernel
theorem dX0_isOfKind_4 : decode cX0_isOfKind 4 = .ok (.iload_n 3, 1) := by decide +kernel
theorem dX0_isOfKind_5 : decode cX0_isOfKind 5 = .ok (.bipush 8, 2) := by decide +kernel
theorem dX0_isOfKind_7 : decode cX0_isOfKind 7 = .ok (.if_icmp .ge 31, 3) := by decide +kernel
theorem dX0_isOfKind_10 : decode cX0_isOfKind 10 = .ok (.iload_n 2, 1) := by decide +kernel
theorem dX0_isOfKind_11 : decode cX0_isOfKind 11 = .ok (.invokestatic 19, 3) := by decide +kernel
theorem dX0_isOfKind_14 : decode cX0_isOfKind 14 = .ok (.ifCond .eq 24, 3) := by decide +kernel
theorem dX0_isOfKind_17 : decode cX0_isOfKind 17 = .ok (.iload_n 2, 1) := by decide +kernel
theorem dX0_isOfKind_18 : decode cX0_isOfKind 18 = .ok (.ifCond .eq 20, 3) := by decide +kernel
theorem dX0_isOfKind_21 : decode cX0_isOfKind 21 = .ok (.iload_n 2, 1) := by decide +kernel
theorem dX0_isOfKind_22 : decode cX0_isOfKind 22 = .ok (.iload_n 1, 1) := by decide +kernel
theorem dX0_isOfKind_23 : decode cX0_isOfKind 23 = .ok (.if_icmp .eq 15, 3) := by decide +kernel
theorem dX0_isOfKind_26 : decode cX0_isOfKind 26 = .ok (.getstatic 23, 3) := by decide +kernel
theorem dX0_isOfKind_29 : decode cX0_isOfKind 29 = .ok (.iload_n 2, 1) := by decide +kernel
theorem dX0_isOfKind_30 : decode cX0_isOfKind 30 = .ok (.iaload, 1) := by decide +kernel
theorem dX0_isOfKind_31 : decode cX0_isOfKind 31 = .ok (.istore_n 2, 1) := by decide +kernel
theorem dX0_isOfKind_32 : decode cX0_isOfKind 32 = .ok (.iinc 3 1, 3) := by decide +kernel
theorem dX0_isOfKind_35 : decode cX0_isOfKind 35 = .ok (.goto (-31), 3) := by decide +kernel
theorem dX0_isOfKind_38 : decode cX0_isOfKind 38 = .ok (.iload_n 2, 1) := by decide +kernel
theorem dX0_isOfKind_39 : decode cX0_isOfKind 39 = .ok (.iload_n 1, 1) := by decide +kernel
theorem dX0_isOfKind_40 : decode cX0_isOfKind 40 = .ok (.if_icmp .ne 7, 3) := by decide +kernel
theorem dX0_isOfKind_43 : decode cX0_isOfKind 43 = .ok (.iconst 1, 1) := by decide +kernel
theorem dX0_isOfKind_44 : decode cX0_isOfKind 44 = .ok (.goto 4, 3) := by decide +kernel
theorem dX0_isOfKind_47 : decode cX0_isOfKind 47 = .ok (.iconst 0, 1) := by decide +kernel
theorem dX0_isOfKind_48 : decode cX0_isOfKind 48 = .ok (.ireturn, 1) := by decide +kernel
theorem dX0_bodyFor_0 : decode cX0_bodyFor 0 = .ok (.iload_n 0, 1) := by decide +kernel
theorem dX0_bodyFor_1 : decode cX0_bodyFor 1 = .ok (.istore_n 2, 1) := by decide +kernel
theorem dX0_bodyFor_2 : decode cX0_bodyFor 2 = .ok (.iconst 0, 1) := by decide +kernel
theorem dX0_bodyFor_3 : decode cX0_bodyFor 3 = .ok (.istore_n 3, 1) := by decide +kernel
theorem dX0_bodyFor_4 : decode cX0_bodyFor 4 = .ok (.iload_n 3, 1) := by decide +kernel
theorem dX0_bodyFor_5 : decode cX0_bodyFor 5 = .ok (.bipush 8, 2) := by decide +kernel
theorem dX0_bodyFor_7 : decode cX0_bodyFor 7 = .ok (.if_icmp .ge 53, 3) := by decide +kernel
theorem dX0_bodyFor_10 : decode cX0_bodyFor 10 = .ok (.iload_n 2, 1) := by decide +kernel
theorem dX0_bodyFor_11 : decode cX0_bodyFor 11 = .ok (.invokestatic 19, 3) := by decide +kernel
theorem dX0_bodyFor_14 : decode cX0_bodyFor 14 = .ok (.ifCond .eq 46, 3) := by decide +kernel
theorem dX0_bodyFor_17 : decode cX0_bodyFor 17 = .ok (.iload_n 2, 1) := by decide +kernel
theorem dX0_bodyFor_18 : decode cX0_bodyFor 18 = .ok (.ifCond .eq 42, 3) := by decide +kernel
theorem dX0_bodyFor_21 : decode cX0_bodyFor 21 = .ok (.iload_n 1, 1) := by decide +kernel
theorem dX0_bodyFor_22 : decode cX0_bodyFor 22 = .ok (.ifCond .ne 11, 3) := by decide +kernel
theorem dX0_bodyFor_25 : decode cX0_bodyFor 25 = .ok (.getstatic 26, 3) := by decide +kernel
theorem dX0_bodyFor_28 : decode cX0_bodyFor 28 = .ok (.iload_n 2, 1) := by decide +kernel
theorem dX0_bodyFor_29 : decode cX0_bodyFor 29 = .ok (.iaload, 1) := by decide +kernel
theorem dX0_bodyFor_30 : decode cX0_bodyFor 30 = .ok (.goto 8, 3) := by decide +kernel
theorem dX0_bodyFor_33 : decode cX0_bodyFor 33 = .ok (.getstatic 29, 3) := by decide +kernel
theorem dX0_bodyFor_36 : decode cX0_bodyFor 36 = .ok (.iload_n 2, 1) := by decide +kernel
theorem dX0_bodyFor_37 : decode cX0_bodyFor 37 = .ok (.iaload, 1) := by decide +kernel
theorem dX0_bodyFor_38 : decode cX0_bodyFor 38 = .ok (.istore 4, 2) := by decide +kernel
theorem dX0_bodyFor_40 : decode cX0_bodyFor 40 = .ok (.iload 4, 2) := by decide +kernel
theorem dX0_bodyFor_42 : decode cX0_bodyFor 42 = .ok (.ifCond .eq 6, 3) := by decide +kernel
theorem dX0_bodyFor_45 : decode cX0_bodyFor 45 = .ok (.iload 4, 2) := by decide +kernel
theorem dX0_bodyFor_47 : decode cX0_bodyFor 47 = .ok (.ireturn, 1) := by decide +kernel
theorem dX0_bodyFor_48 : decode cX0_bodyFor 48 = .ok (.getstatic 23, 3) := by decide +kernel
theorem dX0_bodyFor_51 : decode cX0_bodyFor 51 = .ok (.iload_n 2, 1) := by decide +kernel
theorem dX0_bodyFor_52 : decode cX0_bodyFor 52 = .ok (.iaload, 1) := by decide +kernel
theorem dX0_bodyFor_53 : decode cX0_bodyFor 53 = .ok (.istore_n 2, 1) := by decide +kernel
theorem dX0_bodyFor_54 : decode cX0_bodyFor 54 = .ok (.iinc 3 1, 3) := by decide +kernel
theorem dX0_bodyFor_57 : decode cX0_bodyFor 57 = .ok (.goto (-53), 3) := by decide +kernel
theorem dX0_bodyFor_60 : decode cX0_bodyFor 60 = .ok (.iload_n 1, 1) := by decide +kernel
theorem dX0_bodyFor_61 : decode cX0_bodyFor 61 = .ok (.ifCond .ne 8, 3) := by decide +kernel
theorem dX0_bodyFor_64 : decode cX0_bodyFor 64 = .ok (.bipush 10, 2) := by decide +kernel
theorem dX0_bodyFor_66 : decode cX0_bodyFor 66 = .ok (.goto 5, 3) := by decide +kernel
theorem dX0_bodyFor_69 : decode cX0_bodyFor 69 = .ok (.bipush 20, 2) := by decide +kernel
theorem dX0_bodyFor_71 : decode cX0_bodyFor 71 = .ok (.ireturn, 1) := by decide +kernel
theorem dX0_answerOf_0 : decode cX0_answerOf 0 = .ok (.aload_n 0, 1) := by decide +kernel
theorem dX0_answerOf_1 : decode cX0_answerOf 1 = .ok (.iconst 0, 1) := by decide +kernel
theorem dX0_answerOf_2 : decode cX0_answerOf 2 = .ok (.putfield 15, 3) := by decide +kernel
theorem dX0_answerOf_5 : decode cX0_answerOf 5 = .ok (.aload_n 0, 1) := by decide +kernel
theorem dX0_answerOf_6 : decode cX0_answerOf 6 = .ok (.aload_n 1, 1) := by decide +kernel
theorem dX0_answerOf_7 : decode cX0_answerOf 7 = .ok (.iload_n 2, 1) := by decide +kernel
theorem dX0_answerOf_8 : decode cX0_answerOf 8 = .ok (.iload_n 3, 1) := by decide +kernel
theorem dX0_answerOf_9 : decode cX0_answerOf 9 = .ok (.iconst 0, 1) := by decide +kernel
theorem dX0_answerOf_10 : decode cX0_answerOf 10 = .ok (.invokevirtual 32, 3) := by decide +kernel
theorem dX0_answerOf_13 : decode cX0_answerOf 13 = .ok (.ireturn, 1) := by decide +kernel
theorem dX0_asked_0 : decode cX0_asked 0 = .ok (.aload_n 0, 1) := by decide +kernel
theorem dX0_asked_1 : decode cX0_asked 1 = .ok (.aload_n 1, 1) := by decide +kernel
theorem dX0_asked_2 : decode cX0_asked 2 = .ok (.iload_n 2, 1) := by decide +kernel
theorem dX0_asked_3 : decode cX0_asked 3 = .ok (.aload_n 1, 1) := by decide +kernel
theorem dX0_asked_4 : decode cX0_asked 4 = .ok (.iload_n 2, 1) := by decide +kernel
theorem dX0_asked_5 : decode cX0_asked 5 = .ok (.invokevirtual 36, 3) := by decide +kernel
theorem dX0_asked_8 : decode cX0_asked 8 = .ok (.iload_n 3, 1) := by decide +kernel
theorem dX0_asked_9 : decode cX0_asked 9 = .ok (.invokestatic 42, 3) := by decide +kernel
theorem dX0_asked_12 : decode cX0_asked 12 = .ok (.iload 4, 2) := by decide +kernel
theorem dX0_asked_14 : decode cX0_asked 14 = .ok (.iconst 1, 1) := by decide +kernel
theorem dX0_asked_15 : decode cX0_asked 15 = .ok (.iadd, 1) := by decide +kernel
theorem dX0_asked_16 : decode cX0_asked 16 = .ok (.invokevirtual 46, 3) := by decide +kernel
theorem dX0_asked_19 : decode cX0_asked 19 = .ok (.ireturn, 1) := by decide +kernel
theorem dX0_given_0 : decode cX0_given 0 = .ok (.iload 4, 2) := by decide +kernel
theorem dX0_given_2 : decode cX0_given 2 = .ok (.bipush 16, 2) := by decide +kernel
theorem dX0_given_4 : decode cX0_given 4 = .ok (.if_icmp .le 5, 3) := by decide +kernel
theorem dX0_given_7 : decode cX0_given 7 = .ok (.iconst 0, 1) := by decide +kernel
theorem dX0_given_8 : decode cX0_given 8 = .ok (.ireturn, 1) := by decide +kernel
theorem dX0_given_9 : decode cX0_given 9 = .ok (.aload_n 0, 1) := by decide +kernel
theorem dX0_given_10 : decode cX0_given 10 = .ok (.iload_n 3, 1) := by decide +kernel
theorem dX0_given_11 : decode cX0_given 11 = .ok (.invokevirtual 49, 3) := by decide +kernel
theorem dX0_given_14 : decode cX0_given 14 = .ok (.iload_n 3, 1) := by decide +kernel
theorem dX0_given_15 : decode cX0_given 15 = .ok (.tableswitch 202 10 23 #[69, 76, 101, 116, 131, 202, 202, 202, 202, 202, 145, 147, 163, 177], 69) := by decide +kernel
theorem dX0_given_84 : decode cX0_given 84 = .ok (.aload_n 1, 1) := by decide +kernel
theorem dX0_given_85 : decode cX0_given 85 = .ok (.getfield 53, 3) := by decide +kernel
theorem dX0_given_88 : decode cX0_given 88 = .ok (.iload_n 2, 1) := by decide +kernel
theorem dX0_given_89 : decode cX0_given 89 = .ok (.iaload, 1) := by decide +kernel
theorem dX0_given_90 : decode cX0_given 90 = .ok (.ireturn, 1) := by decide +kernel
theorem dX0_given_91 : decode cX0_given 91 = .ok (.aload_n 0, 1) := by decide +kernel
theorem dX0_given_92 : decode cX0_given 92 = .ok (.aload_n 1, 1) := by decide +kernel
theorem dX0_given_93 : decode cX0_given 93 = .ok (.iload_n 2, 1) := by decide +kernel
theorem dX0_given_94 : decode cX0_given 94 = .ok (.bipush 10, 2) := by decide +kernel
theorem dX0_given_96 : decode cX0_given 96 = .ok (.iload 4, 2) := by decide +kernel
theorem dX0_given_98 : decode cX0_given 98 = .ok (.iconst 1, 1) := by decide +kernel
theorem dX0_given_99 : decode cX0_given 99 = .ok (.iadd, 1) := by decide +kernel
theorem dX0_given_100 : decode cX0_given 100 = .ok (.invokevirtual 46, 3) := by decide +kernel
theorem dX0_given_103 : decode cX0_given 103 = .ok (.aload_n 0, 1) := by decide +kernel
theorem dX0_given_104 : decode cX0_given 104 = .ok (.aload_n 1, 1) := by decide +kernel
theorem dX0_given_105 : decode cX0_given 105 = .ok (.iload_n 2, 1) := by decide +kernel
theorem dX0_given_106 : decode cX0_given 106 = .ok (.iconst 1, 1) := by decide +kernel
theorem dX0_given_107 : decode cX0_given 107 = .ok (.iload 4, 2) := by decide +kernel
theorem dX0_given_109 : decode cX0_given 109 = .ok (.iconst 1, 1) := by decide +kernel
theorem dX0_given_110 : decode cX0_given 110 = .ok (.iadd, 1) := by decide +kernel
theorem dX0_given_111 : decode cX0_given 111 = .ok (.invokevirtual 32, 3) := by decide +kernel
theorem dX0_given_114 : decode cX0_given 114 = .ok (.iadd, 1) := by decide +kernel
theorem dX0_given_115 : decode cX0_given 115 = .ok (.ireturn, 1) := by decide +kernel
theorem dX0_given_116 : decode cX0_given 116 = .ok (.aload_n 0, 1) := by decide +kernel
theorem dX0_given_117 : decode cX0_given 117 = .ok (.aload_n 1, 1) := by decide +kernel
theorem dX0_given_118 : decode cX0_given 118 = .ok (.iload_n 2, 1) := by decide +kernel
theorem dX0_given_119 : decode cX0_given 119 = .ok (.bipush 11, 2) := by decide +kernel
theorem dX0_given_121 : decode cX0_given 121 = .ok (.iload 4, 2) := by decide +kernel
theorem dX0_given_123 : decode cX0_given 123 = .ok (.iconst 1, 1) := by decide +kernel
theorem dX0_given_124 : decode cX0_given 124 = .ok (.iadd, 1) := by decide +kernel
theorem dX0_given_125 : decode cX0_given 125 = .ok (.invokevirtual 46, 3) := by decide +kernel
theorem dX0_given_128 : decode cX0_given 128 = .ok (.iconst 1, 1) := by decide +kernel
theorem dX0_given_129 : decode cX0_given 129 = .ok (.isub, 1) := by decide +kernel
theorem dX0_given_130 : decode cX0_given 130 = .ok (.ireturn, 1) := by decide +kernel
theorem dX0_given_131 : decode cX0_given 131 = .ok (.iconst 2, 1) := by decide +kernel
theorem dX0_given_132 : decode cX0_given 132 = .ok (.aload_n 0, 1) := by decide +kernel
theorem dX0_given_133 : decode cX0_given 133 = .ok (.aload_n 1, 1) := by decide +kernel
theorem dX0_given_134 : decode cX0_given 134 = .ok (.iload_n 2, 1) := by decide +kernel
theorem dX0_given_135 : decode cX0_given 135 = .ok (.bipush 12, 2) := by decide +kernel
theorem dX0_given_137 : decode cX0_given 137 = .ok (.iload 4, 2) := by decide +kernel
theorem dX0_given_139 : decode cX0_given 139 = .ok (.iconst 1, 1) := by decide +kernel
theorem dX0_given_140 : decode cX0_given 140 = .ok (.iadd, 1) := by decide +kernel
theorem dX0_given_141 : decode cX0_given 141 = .ok (.invokevirtual 46, 3) := by decide +kernel
theorem dX0_given_144 : decode cX0_given 144 = .ok (.imul, 1) := by decide +kernel
theorem dX0_given_145 : decode cX0_given 145 = .ok (.ireturn, 1) := by decide +kernel
theorem dX0_given_146 : decode cX0_given 146 = .ok (.aload_n 0, 1) := by decide +kernel
theorem dX0_given_147 : decode cX0_given 147 = .ok (.aload_n 1, 1) := by decide +kernel
theorem dX0_given_148 : decode cX0_given 148 = .ok (.iload_n 2, 1) := by decide +kernel
theorem dX0_given_149 : decode cX0_given 149 = .ok (.bipush 10, 2) := by decide +kernel
theorem dX0_given_151 : decode cX0_given 151 = .ok (.iload 4, 2) := by decide +kernel
theorem dX0_given_153 : decode cX0_given 153 = .ok (.iconst 1, 1) := by decide +kernel
theorem dX0_given_154 : decode cX0_given 154 = .ok (.iadd, 1) := by decide +kernel
theorem dX0_given_155 : decode cX0_given 155 = .ok (.invokevirtual 46, 3) := by decide +kernel
theorem dX0_given_158 : decode cX0_given 158 = .ok (.ineg, 1) := by decide +kernel
theorem dX0_given_159 : decode cX0_given 159 = .ok (.ireturn, 1) := by decide +kernel
theorem dX0_given_160 : decode cX0_given 160 = .ok (.iload_n 2, 1) := by decide +kernel
theorem dX0_given_161 : decode cX0_given 161 = .ok (.ireturn, 1) := by decide +kernel
theorem dX0_given_162 : decode cX0_given 162 = .ok (.aload_n 0, 1) := by decide +kernel
theorem dX0_given_163 : decode cX0_given 163 = .ok (.aload_n 1, 1) := by decide +kernel
theorem dX0_given_164 : decode cX0_given 164 = .ok (.iload_n 2, 1) := by decide +kernel
theorem dX0_given_165 : decode cX0_given 165 = .ok (.bipush 20, 2) := by decide +kernel
theorem dX0_given_167 : decode cX0_given 167 = .ok (.iload 4, 2) := by decide +kernel
theorem dX0_given_169 : decode cX0_given 169 = .ok (.iconst 1, 1) := by decide +kernel
theorem dX0_given_170 : decode cX0_given 170 = .ok (.iadd, 1) := by decide +kernel
theorem dX0_given_171 : decode cX0_given 171 = .ok (.invokevirtual 46, 3) := by decide +kernel
theorem dX0_given_174 : decode cX0_given 174 = .ok (.bipush 100, 2) := by decide +kernel
theorem dX0_given_176 : decode cX0_given 176 = .ok (.iadd, 1) := by decide +kernel
theorem dX0_given_177 : decode cX0_given 177 = .ok (.ireturn, 1) := by decide +kernel
theorem dX0_given_178 : decode cX0_given 178 = .ok (.aload_n 0, 1) := by decide +kernel
theorem dX0_given_179 : decode cX0_given 179 = .ok (.aload_n 1, 1) := by decide +kernel
theorem dX0_given_180 : decode cX0_given 180 = .ok (.iload_n 2, 1) := by decide +kernel
theorem dX0_given_181 : decode cX0_given 181 = .ok (.bipush 20, 2) := by decide +kernel
theorem dX0_given_183 : decode cX0_given 183 = .ok (.iload 4, 2) := by decide +kernel
theorem dX0_given_185 : decode cX0_given 185 = .ok (.iconst 1, 1) := by decide +kernel
theorem dX0_given_186 : decode cX0_given 186 = .ok (.iadd, 1) := by decide +kernel
theorem dX0_given_187 : decode cX0_given 187 = .ok (.invokevirtual 46, 3) := by decide +kernel
theorem dX0_given_190 : decode cX0_given 190 = .ok (.ineg, 1) := by decide +kernel
theorem dX0_given_191 : decode cX0_given 191 = .ok (.ireturn, 1) := by decide +kernel
theorem dX0_given_192 : decode cX0_given 192 = .ok (.aload_n 0, 1) := by decide +kernel
theorem dX0_given_193 : decode cX0_given 193 = .ok (.aload_n 1, 1) := by decide +kernel
theorem dX0_given_194 : decode cX0_given 194 = .ok (.iload_n 2, 1) := by decide +kernel
theorem dX0_given_195 : decode cX0_given 195 = .ok (.bipush 20, 2) := by decide +kernel
theorem dX0_given_197 : decode cX0_given 197 = .ok (.iload 4, 2) := by decide +kernel
theorem dX0_given_199 : decode cX0_given 199 = .ok (.iconst 1, 1) := by decide +kernel
theorem dX0_given_200 : decode cX0_given 200 = .ok (.iadd, 1) := by decide +kernel
theorem dX0_given_201 : decode cX0_given 201 = .ok (.invokevirtual 46, 3) := by decide +kernel
theorem dX0_given_204 : decode cX0_given 204 = .ok (.aload_n 0, 1) := by decide +kernel
theorem dX0_given_205 : decode cX0_given 205 = .ok (.aload_n 1, 1) := by decide +kernel
theorem dX0_given_206 : decode cX0_given 206 = .ok (.iload_n 2, 1) := by decide +kernel
theorem dX0_given_207 : decode cX0_given 207 = .ok (.iconst 0, 1) := by decide +kernel
theorem dX0_given_208 : decode cX0_given 208 = .ok (.iload 4, 2) := by decide +kernel
theorem dX0_given_210 : decode cX0_given 210 = .ok (.iconst 1, 1) := by decide +kernel
theorem dX0_given_211 : decode cX0_given 211 = .ok (.iadd, 1) := by decide +kernel
theorem dX0_given_212 : decode cX0_given 212 = .ok (.invokevirtual 32, 3) := by decide +kernel
theorem dX0_given_215 : decode cX0_given 215 = .ok (.iadd, 1) := by decide +kernel
theorem dX0_given_216 : decode cX0_given 216 = .ok (.ireturn, 1) := by decide +kernel
theorem dX0_given_217 : decode cX0_given 217 = .ok (.iconst 0, 1) := by decide +kernel
theorem dX0_given_218 : decode cX0_given 218 = .ok (.ireturn, 1) := by decide +kernel
theorem dX0_leave_0 : decode cX0_leave 0 = .ok (.aload_n 0, 1) := by decide +kernel
theorem dX0_leave_1 : decode cX0_leave 1 = .ok (.getfield 15, 3) := by decide +kernel
theorem dX0_leave_4 : decode cX0_leave 4 = .ok (.bipush 16, 2) := by decide +kernel
theorem dX0_leave_6 : decode cX0_leave 6 = .ok (.if_icmp .ge 23, 3) := by decide +kernel
theorem dX0_leave_9 : decode cX0_leave 9 = .ok (.aload_n 0, 1) := by decide +kernel
theorem dX0_leave_10 : decode cX0_leave 10 = .ok (.getfield 11, 3) := by decide +kernel
theorem dX0_leave_13 : decode cX0_leave 13 = .ok (.aload_n 0, 1) := by decide +kernel
theorem dX0_leave_14 : decode cX0_leave 14 = .ok (.getfield 15, 3) := by decide +kernel
theorem dX0_leave_17 : decode cX0_leave 17 = .ok (.iload_n 1, 1) := by decide +kernel
theorem dX0_leave_18 : decode cX0_leave 18 = .ok (.iastore, 1) := by decide +kernel
theorem dX0_leave_19 : decode cX0_leave 19 = .ok (.aload_n 0, 1) := by decide +kernel
theorem dX0_leave_20 : decode cX0_leave 20 = .ok (.dup, 1) := by decide +kernel
theorem dX0_leave_21 : decode cX0_leave 21 = .ok (.getfield 15, 3) := by decide +kernel
theorem dX0_leave_24 : decode cX0_leave 24 = .ok (.iconst 1, 1) := by decide +kernel
theorem dX0_leave_25 : decode cX0_leave 25 = .ok (.iadd, 1) := by decide +kernel
theorem dX0_leave_26 : decode cX0_leave 26 = .ok (.putfield 15, 3) := by decide +kernel
theorem dX0_leave_29 : decode cX0_leave 29 = .ok (.return_, 1) := by decide +kernel
theorem dX0_traced_0 : decode cX0_traced 0 = .ok (.iload_n 1, 1) := by decide +kernel
theorem dX0_traced_1 : decode cX0_traced 1 = .ok (.ifCond .lt 20, 3) := by decide +kernel
theorem dX0_traced_4 : decode cX0_traced 4 = .ok (.iload_n 1, 1) := by decide +kernel
theorem dX0_traced_5 : decode cX0_traced 5 = .ok (.aload_n 0, 1) := by decide +kernel
theorem dX0_traced_6 : decode cX0_traced 6 = .ok (.getfield 15, 3) := by decide +kernel
theorem dX0_traced_9 : decode cX0_traced 9 = .ok (.if_icmp .ge 12, 3) := by decide +kernel
theorem dX0_traced_12 : decode cX0_traced 12 = .ok (.aload_n 0, 1) := by decide +kernel
theorem dX0_traced_13 : decode cX0_traced 13 = .ok (.getfield 11, 3) := by decide +kernel
theorem dX0_traced_16 : decode cX0_traced 16 = .ok (.iload_n 1, 1) := by decide +kernel
theorem dX0_traced_17 : decode cX0_traced 17 = .ok (.iaload, 1) := by decide +kernel
theorem dX0_traced_18 : decode cX0_traced 18 = .ok (.goto 5, 3) := by decide +kernel
theorem dX0_traced_21 : decode cX0_traced 21 = .ok (.ldc 56, 2) := by decide +kernel
theorem dX0_traced_23 : decode cX0_traced 23 = .ok (.ireturn, 1) := by decide +kernel
theorem dX1_init_0 : decode cX1_init 0 = .ok (.aload_n 0, 1) := by decide +kernel
theorem dX1_init_1 : decode cX1_init 1 = .ok (.invokespecial 3, 3) := by decide +kernel
theorem dX1_init_4 : decode cX1_init 4 = .ok (.aload_n 0, 1) := by decide +kernel
theorem dX1_init_5 : decode cX1_init 5 = .ok (.bipush 12, 2) := by decide +kernel
theorem dX1_init_7 : decode cX1_init 7 = .ok (.newarray .int, 2) := by decide +kernel
theorem dX1_init_9 : decode cX1_init 9 = .ok (.putfield 9, 3) := by decide +kernel
theorem dX1_init_12 : decode cX1_init 12 = .ok (.aload_n 0, 1) := by decide +kernel
theorem dX1_init_13 : decode cX1_init 13 = .ok (.bipush 12, 2) := by decide +kernel
theorem dX1_init_15 : decode cX1_init 15 = .ok (.newarray .int, 2) := by decide +kernel
theorem dX1_init_17 : decode cX1_init 17 = .ok (.putfield 15, 3) := by decide +kernel
theorem dX1_init_20 : decode cX1_init 20 = .ok (.aload_n 0, 1) := by decide +kernel
theorem dX1_init_21 : decode cX1_init 21 = .ok (.iconst 0, 1) := by decide +kernel
theorem dX1_init_22 : decode cX1_init 22 = .ok (.putfield 18, 3) := by decide +kernel
theorem dX1_init_25 : decode cX1_init 25 = .ok (.return_, 1) := by decide +kernel
theorem dX1_forget_0 : decode cX1_forget 0 = .ok (.aload_n 0, 1) := by decide +kernel
theorem dX1_forget_1 : decode cX1_forget 1 = .ok (.iconst 0, 1) := by decide +kernel
theorem dX1_forget_2 : decode cX1_forget 2 = .ok (.putfield 18, 3) := by decide +kernel
theorem dX1_forget_5 : decode cX1_forget 5 = .ok (.return_, 1) := by decide +kernel
theorem dX1_look_0 : decode cX1_look 0 = .ok (.aload_n 0, 1) := by decide +kernel
theorem dX1_look_1 : decode cX1_look 1 = .ok (.getfield 18, 3) := by decide +kernel
theorem dX1_look_4 : decode cX1_look 4 = .ok (.ifCond .eq 4, 3) := by decide +kernel
theorem dX1_look_7 : decode cX1_look 7 = .ok (.return_, 1) := by decide +kernel
theorem dX1_look_8 : decode cX1_look 8 = .ok (.aload_n 0, 1) := by decide +kernel
theorem dX1_look_9 : decode cX1_look 9 = .ok (.iconst 1, 1) := by decide +kernel
theorem dX1_look_10 : decode cX1_look 10 = .ok (.putfield 18, 3) := by decide +kernel
theorem dX1_look_13 : decode cX1_look 13 = .ok (.aload_n 0, 1) := by decide +kernel
theorem dX1_look_14 : decode cX1_look 14 = .ok (.getfield 9, 3) := by decide +kernel
theorem dX1_look_17 : decode cX1_look 17 = .ok (.ldc 22, 2) := by decide +kernel
theorem dX1_look_19 : decode cX1_look 19 = .ok (.invokestatic 23, 3) := by decide +kernel
theorem dX1_look_22 : decode cX1_look 22 = .ok (.iconst 0, 1) := by decide +kernel
theorem dX1_look_23 : decode cX1_look 23 = .ok (.istore_n 3, 1) := by decide +kernel
theorem dX1_look_24 : decode cX1_look 24 = .ok (.iload_n 3, 1) := by decide +kernel
theorem dX1_look_25 : decode cX1_look 25 = .ok (.bipush 80, 2) := by decide +kernel
theorem dX1_look_27 : decode cX1_look 27 = .ok (.if_icmp .gt 59, 3) := by decide +kernel
theorem dX1_look_30 : decode cX1_look 30 = .ok (.iload_n 3, 1) := by decide +kernel
theorem dX1_look_31 : decode cX1_look 31 = .ok (.iconst 2, 1) := by decide +kernel
theorem dX1_look_32 : decode cX1_look 32 = .ok (.irem, 1) := by decide +kernel
theorem dX1_look_33 : decode cX1_look 33 = .ok (.iconst 1, 1) := by decide +kernel
theorem dX1_look_34 : decode cX1_look 34 = .ok (.if_icmp .ne 12, 3) := by decide +kernel
theorem dX1_look_37 : decode cX1_look 37 = .ok (.iload_n 3, 1) := by decide +kernel
theorem dX1_look_38 : decode cX1_look 38 = .ok (.iconst 2, 1) := by decide +kernel
theorem dX1_look_39 : decode cX1_look 39 = .ok (.idiv, 1) := by decide +kernel
theorem dX1_look_40 : decode cX1_look 40 = .ok (.ineg, 1) := by decide +kernel
theorem dX1_look_41 : decode cX1_look 41 = .ok (.iconst 1, 1) := by decide +kernel
theorem dX1_look_42 : decode cX1_look 42 = .ok (.isub, 1) := by decide +kernel
theorem dX1_look_43 : decode cX1_look 43 = .ok (.goto 6, 3) := by decide +kernel
theorem dX1_look_46 : decode cX1_look 46 = .ok (.iload_n 3, 1) := by decide +kernel
theorem dX1_look_47 : decode cX1_look 47 = .ok (.iconst 2, 1) := by decide +kernel
theorem dX1_look_48 : decode cX1_look 48 = .ok (.idiv, 1) := by decide +kernel
theorem dX1_look_49 : decode cX1_look 49 = .ok (.istore 4, 2) := by decide +kernel
theorem dX1_look_51 : decode cX1_look 51 = .ok (.aload_n 0, 1) := by decide +kernel
theorem dX1_look_52 : decode cX1_look 52 = .ok (.getfield 15, 3) := by decide +kernel
theorem dX1_look_55 : decode cX1_look 55 = .ok (.iload 4, 2) := by decide +kernel
theorem dX1_look_57 : decode cX1_look 57 = .ok (.invokestatic 23, 3) := by decide +kernel
theorem dX1_look_60 : decode cX1_look 60 = .ok (.aload_n 2, 1) := by decide +kernel
theorem dX1_look_61 : decode cX1_look 61 = .ok (.aload_n 1, 1) := by decide +kernel
theorem dX1_look_62 : decode cX1_look 62 = .ok (.aload_n 0, 1) := by decide +kernel
theorem dX1_look_63 : decode cX1_look 63 = .ok (.getfield 15, 3) := by decide +kernel
theorem dX1_look_66 : decode cX1_look 66 = .ok (.getstatic 29, 3) := by decide +kernel
theorem dX1_look_69 : decode cX1_look 69 = .ok (.iconst (-1), 1) := by decide +kernel
theorem dX1_look_70 : decode cX1_look 70 = .ok (.invokevirtual 32, 3) := by decide +kernel
theorem dX1_look_73 : decode cX1_look 73 = .ok (.aload_n 0, 1) := by decide +kernel
theorem dX1_look_74 : decode cX1_look 74 = .ok (.aload_n 2, 1) := by decide +kernel
theorem dX1_look_75 : decode cX1_look 75 = .ok (.iload 4, 2) := by decide +kernel
theorem dX1_look_77 : decode cX1_look 77 = .ok (.invokevirtual 38, 3) := by decide +kernel
theorem dX1_look_80 : decode cX1_look 80 = .ok (.iinc 3 1, 3) := by decide +kernel
theorem dX1_look_83 : decode cX1_look 83 = .ok (.goto (-59), 3) := by decide +kernel
theorem dX1_look_86 : decode cX1_look 86 = .ok (.iconst 1, 1) := by decide +kernel
theorem dX1_look_87 : decode cX1_look 87 = .ok (.istore_n 3, 1) := by decide +kernel
theorem dX1_look_88 : decode cX1_look 88 = .ok (.iload_n 3, 1) := by decide +kernel
theorem dX1_look_89 : decode cX1_look 89 = .ok (.bipush 12, 2) := by decide +kernel
theorem dX1_look_91 : decode cX1_look 91 = .ok (.if_icmp .ge 30, 3) := by decide +kernel
theorem dX1_look_94 : decode cX1_look 94 = .ok (.aload_n 0, 1) := by decide +kernel
theorem dX1_look_95 : decode cX1_look 95 = .ok (.getfield 9, 3) := by decide +kernel
theorem dX1_look_98 : decode cX1_look 98 = .ok (.iload_n 3, 1) := by decide +kernel
theorem dX1_look_99 : decode cX1_look 99 = .ok (.iconst 1, 1) := by decide +kernel
theorem dX1_look_100 : decode cX1_look 100 = .ok (.isub, 1) := by decide +kernel
theorem dX1_look_101 : decode cX1_look 101 = .ok (.iaload, 1) := by decide +kernel
theorem dX1_look_102 : decode cX1_look 102 = .ok (.ldc 22, 2) := by decide +kernel
theorem dX1_look_104 : decode cX1_look 104 = .ok (.if_icmp .ne 11, 3) := by decide +kernel
theorem dX1_look_107 : decode cX1_look 107 = .ok (.aload_n 0, 1) := by decide +kernel
theorem dX1_look_108 : decode cX1_look 108 = .ok (.getfield 9, 3) := by decide +kernel
theorem dX1_look_111 : decode cX1_look 111 = .ok (.iload_n 3, 1) := by decide +kernel
theorem dX1_look_112 : decode cX1_look 112 = .ok (.ldc 22, 2) := by decide +kernel
theorem dX1_look_114 : decode cX1_look 114 = .ok (.iastore, 1) := by decide +kernel
theorem dX1_look_115 : decode cX1_look 115 = .ok (.iinc 3 1, 3) := by decide +kernel
theorem dX1_look_118 : decode cX1_look 118 = .ok (.goto (-30), 3) := by decide +kernel
theorem dX1_look_121 : decode cX1_look 121 = .ok (.return_, 1) := by decide +kernel
theorem dX1_keepWhereFlat_0 : decode cX1_keepWhereFlat 0 = .ok (.iconst 0, 1) := by decide +kernel
theorem dX1_keepWhereFlat_1 : decode cX1_keepWhereFlat 1 = .ok (.istore_n 3, 1) := by decide +kernel
theorem dX1_keepWhereFlat_2 : decode cX1_keepWhereFlat 2 = .ok (.iload_n 3, 1) := by decide +kernel
theorem dX1_keepWhereFlat_3 : decode cX1_keepWhereFlat 3 = .ok (.aload_n 1, 1) := by decide +kernel
theorem dX1_keepWhereFlat_4 : decode cX1_keepWhereFlat 4 = .ok (.getfield 42, 3) := by decide +kernel
theorem dX1_keepWhereFlat_7 : decode cX1_keepWhereFlat 7 = .ok (.if_icmp .ge 36, 3) := by decide +kernel
theorem dX1_keepWhereFlat_10 : decode cX1_keepWhereFlat 10 = .ok (.aload_n 0, 1) := by decide +kernel
theorem dX1_keepWhereFlat_11 : decode cX1_keepWhereFlat 11 = .ok (.getfield 9, 3) := by decide +kernel
theorem dX1_keepWhereFlat_14 : decode cX1_keepWhereFlat 14 = .ok (.iload_n 3, 1) := by decide +kernel
theorem dX1_keepWhereFlat_15 : decode cX1_keepWhereFlat 15 = .ok (.iaload, 1) := by decide +kernel
theorem dX1_keepWhereFlat_16 : decode cX1_keepWhereFlat 16 = .ok (.ldc 22, 2) := by decide +kernel
theorem dX1_keepWhereFlat_18 : decode cX1_keepWhereFlat 18 = .ok (.if_icmp .ne 19, 3) := by decide +kernel
theorem dX1_keepWhereFlat_21 : decode cX1_keepWhereFlat 21 = .ok (.aload_n 1, 1) := by decide +kernel
theorem dX1_keepWhereFlat_22 : decode cX1_keepWhereFlat 22 = .ok (.getfield 46, 3) := by decide +kernel
theorem dX1_keepWhereFlat_25 : decode cX1_keepWhereFlat 25 = .ok (.iload_n 3, 1) := by decide +kernel
theorem dX1_keepWhereFlat_26 : decode cX1_keepWhereFlat 26 = .ok (.iaload, 1) := by decide +kernel
theorem dX1_keepWhereFlat_27 : decode cX1_keepWhereFlat 27 = .ok (.ifCond .ne 10, 3) := by decide +kernel
theorem dX1_keepWhereFlat_30 : decode cX1_keepWhereFlat 30 = .ok (.aload_n 0, 1) := by decide +kernel
theorem dX1_keepWhereFlat_31 : decode cX1_keepWhereFlat 31 = .ok (.getfield 9, 3) := by decide +kernel
theorem dX1_keepWhereFlat_34 : decode cX1_keepWhereFlat 34 = .ok (.iload_n 3, 1) := by decide +kernel
theorem dX1_keepWhereFlat_35 : decode cX1_keepWhereFlat 35 = .ok (.iload_n 2, 1) := by decide +kernel
theorem dX1_keepWhereFlat_36 : decode cX1_keepWhereFlat 36 = .ok (.iastore, 1) := by decide +kernel
theorem dX1_keepWhereFlat_37 : decode cX1_keepWhereFlat 37 = .ok (.iinc 3 1, 3) := by decide +kernel
theorem dX1_keepWhereFlat_40 : decode cX1_keepWhereFlat 40 = .ok (.goto (-38), 3) := by decide +kernel
theorem dX1_keepWhereFlat_43 : decode cX1_keepWhereFlat 43 = .ok (.return_, 1) := by decide +kernel
theorem dX2_init_0 : decode cX2_init 0 = .ok (.aload_n 0, 1) := by decide +kernel
theorem dX2_init_1 : decode cX2_init 1 = .ok (.invokespecial 3, 3) := by decide +kernel
theorem dX2_init_4 : decode cX2_init 4 = .ok (.aload_n 0, 1) := by decide +kernel
theorem dX2_init_5 : decode cX2_init 5 = .ok (.bipush 12, 2) := by decide +kernel
theorem dX2_init_7 : decode cX2_init 7 = .ok (.newarray .int, 2) := by decide +kernel
theorem dX2_init_9 : decode cX2_init 9 = .ok (.putfield 9, 3) := by decide +kernel
theorem dX2_init_12 : decode cX2_init 12 = .ok (.aload_n 0, 1) := by decide +kernel
theorem dX2_init_13 : decode cX2_init 13 = .ok (.bipush 12, 2) := by decide +kernel
theorem dX2_init_15 : decode cX2_init 15 = .ok (.newarray .int, 2) := by decide +kernel
theorem dX2_init_17 : decode cX2_init 17 = .ok (.putfield 15, 3) := by decide +kernel
theorem dX2_init_20 : decode cX2_init 20 = .ok (.aload_n 0, 1) := by decide +kernel
theorem dX2_init_21 : decode cX2_init 21 = .ok (.bipush 12, 2) := by decide +kernel
theorem dX2_init_23 : decode cX2_init 23 = .ok (.newarray .int, 2) := by decide +kernel
theorem dX2_init_25 : decode cX2_init 25 = .ok (.putfield 18, 3) := by decide +kernel
theorem dX2_init_28 : decode cX2_init 28 = .ok (.aload_n 0, 1) := by decide +kernel
theorem dX2_init_29 : decode cX2_init 29 = .ok (.bipush 12, 2) := by decide +kernel
theorem dX2_init_31 : decode cX2_init 31 = .ok (.newarray .int, 2) := by decide +kernel
theorem dX2_init_33 : decode cX2_init 33 = .ok (.putfield 21, 3) := by decide +kernel
theorem dX2_init_36 : decode cX2_init 36 = .ok (.aload_n 0, 1) := by decide +kernel
theorem dX2_init_37 : decode cX2_init 37 = .ok (.bipush 12, 2) := by decide +kernel
theorem dX2_init_39 : decode cX2_init 39 = .ok (.newarray .int, 2) := by decide +kernel
theorem dX2_init_41 : decode cX2_init 41 = .ok (.putfield 24, 3) := by decide +kernel
theorem dX2_init_44 : decode cX2_init 44 = .ok (.aload_n 0, 1) := by decide +kernel
theorem dX2_init_45 : decode cX2_init 45 = .ok (.bipush 12, 2) := by decide +kernel
theorem dX2_init_47 : decode cX2_init 47 = .ok (.newarray .int, 2) := by decide +kernel
theorem dX2_init_49 : decode cX2_init 49 = .ok (.putfield 27, 3) := by decide +kernel
theorem dX2_init_52 : decode cX2_init 52 = .ok (.aload_n 0, 1) := by decide +kernel
theorem dX2_init_53 : decode cX2_init 53 = .ok (.iconst 0, 1) := by decide +kernel
theorem dX2_init_54 : decode cX2_init 54 = .ok (.putfield 30, 3) := by decide +kernel
theorem dX2_init_57 : decode cX2_init 57 = .ok (.aload_n 0, 1) := by decide +kernel
theorem dX2_init_58 : decode cX2_init 58 = .ok (.iconst 0, 1) := by decide +kernel
theorem dX2_init_59 : decode cX2_init 59 = .ok (.putfield 34, 3) := by decide +kernel
theorem dX2_init_62 : decode cX2_init 62 = .ok (.aload_n 0, 1) := by decide +kernel
theorem dX2_init_63 : decode cX2_init 63 = .ok (.iconst 0, 1) := by decide +kernel
theorem dX2_init_64 : decode cX2_init 64 = .ok (.putfield 37, 3) := by decide +kernel
theorem dX2_init_67 : decode cX2_init 67 = .ok (.aload_n 0, 1) := by decide +kernel
theorem dX2_init_68 : decode cX2_init 68 = .ok (.iconst 0, 1) := by decide +kernel
theorem dX2_init_69 : decode cX2_init 69 = .ok (.putfield 40, 3) := by decide +kernel
theorem dX2_init_72 : decode cX2_init 72 = .ok (.return_, 1) := by decide +kernel
theorem dX2_begin_0 : decode cX2_begin 0 = .ok (.aload_n 0, 1) := by decide +kernel
theorem dX2_begin_1 : decode cX2_begin 1 = .ok (.iload_n 1, 1) := by decide +kernel
theorem dX2_begin_2 : decode cX2_begin 2 = .ok (.bipush 12, 2) := by decide +kernel
theorem dX2_begin_4 : decode cX2_begin 4 = .ok (.invokestatic 43, 3) := by decide +kernel
theorem dX2_begin_7 : decode cX2_begin 7 = .ok (.putfield 34, 3) := by decide +kernel
theorem dX2_begin_10 : decode cX2_begin 10 = .ok (.aload_n 0, 1) := by decide +kernel
theorem dX2_begin_11 : decode cX2_begin 11 = .ok (.iconst 0, 1) := by decide +kernel
theorem dX2_begin_12 : decode cX2_begin 12 = .ok (.putfield 37, 3) := by decide +kernel
theorem dX2_begin_15 : decode cX2_begin 15 = .ok (.aload_n 0, 1) := by decide +kernel
theorem dX2_begin_16 : decode cX2_begin 16 = .ok (.iconst 0, 1) := by decide +kernel
theorem dX2_begin_17 : decode cX2_begin 17 = .ok (.putfield 40, 3) := by decide +kernel
theorem dX2_begin_20 : decode cX2_begin 20 = .ok (.aload_n 0, 1) := by decide +kernel
theorem dX2_begin_21 : decode cX2_begin 21 = .ok (.iconst 0, 1) := by decide +kernel
theorem dX2_begin_22 : decode cX2_begin 22 = .ok (.putfield 30, 3) := by decide +kernel
theorem dX2_begin_25 : decode cX2_begin 25 = .ok (.aload_n 0, 1) := by decide +kernel
theorem dX2_begin_26 : decode cX2_begin 26 = .ok (.getfield 9, 3) := by decide +kernel
theorem dX2_begin_29 : decode cX2_begin 29 = .ok (.iconst 0, 1) := by decide +kernel
theorem dX2_begin_30 : decode cX2_begin 30 = .ok (.invokestatic 49, 3) := by decide +kernel
theorem dX2_begin_33 : decode cX2_begin 33 = .ok (.aload_n 0, 1) := by decide +kernel
theorem dX2_begin_34 : decode cX2_begin 34 = .ok (.getfield 15, 3) := by decide +kernel
theorem dX2_begin_37 : decode cX2_begin 37 = .ok (.iconst 0, 1) := by decide +kernel
theorem dX2_begin_38 : decode cX2_begin 38 = .ok (.invokestatic 49, 3) := by decide +kernel
theorem dX2_begin_41 : decode cX2_begin 41 = .ok (.aload_n 0, 1) := by decide +kernel
theorem dX2_begin_42 : decode cX2_begin 42 = .ok (.getfield 18, 3) := by decide +kernel
theorem dX2_begin_45 : decode cX2_begin 45 = .ok (.iconst 0, 1) := by decide +kernel
theorem dX2_begin_46 : decode cX2_begin 46 = .ok (.invokestatic 49, 3) := by decide +kernel
theorem dX2_begin_49 : decode cX2_begin 49 = .ok (.aload_n 0, 1) := by decide +kernel
theorem dX2_begin_50 : decode cX2_begin 50 = .ok (.getfield 24, 3) := by decide +kernel
theorem dX2_begin_53 : decode cX2_begin 53 = .ok (.iconst 0, 1) := by decide +kernel
theorem dX2_begin_54 : decode cX2_begin 54 = .ok (.invokestatic 49, 3) := by decide +kernel
theorem dX2_begin_57 : decode cX2_begin 57 = .ok (.aload_n 0, 1) := by decide +kernel
theorem dX2_begin_58 : decode cX2_begin 58 = .ok (.getfield 27, 3) := by decide +kernel
theorem dX2_begin_61 : decode cX2_begin 61 = .ok (.iconst 0, 1) := by decide +kernel
theorem dX2_begin_62 : decode cX2_begin 62 = .ok (.invokestatic 49, 3) := by decide +kernel
theorem dX2_begin_65 : decode cX2_begin 65 = .ok (.aload_n 2, 1) := by decide +kernel
theorem dX2_begin_66 : decode cX2_begin 66 = .ok (.iconst 0, 1) := by decide +kernel
theorem dX2_begin_67 : decode cX2_begin 67 = .ok (.aload_n 0, 1) := by decide +kernel
theorem dX2_begin_68 : decode cX2_begin 68 = .ok (.getfield 21, 3) := by decide +kernel
theorem dX2_begin_71 : decode cX2_begin 71 = .ok (.iconst 0, 1) := by decide +kernel
theorem dX2_begin_72 : decode cX2_begin 72 = .ok (.bipush 12, 2) := by decide +kernel
theorem dX2_begin_74 : decode cX2_begin 74 = .ok (.invokestatic 55, 3) := by decide +kernel
theorem dX2_begin_77 : decode cX2_begin 77 = .ok (.return_, 1) := by decide +kernel
theorem dX2_becomeAs_0 : decode cX2_becomeAs 0 = .ok (.aload_n 0, 1) := by decide +kernel
theorem dX2_becomeAs_1 : decode cX2_becomeAs 1 = .ok (.aload_n 1, 1) := by decide +kernel
theorem dX2_becomeAs_2 : decode cX2_becomeAs 2 = .ok (.getfield 34, 3) := by decide +kernel
theorem dX2_becomeAs_5 : decode cX2_becomeAs 5 = .ok (.putfield 34, 3) := by decide +kernel
theorem dX2_becomeAs_8 : decode cX2_becomeAs 8 = .ok (.aload_n 0, 1) := by decide +kernel
theorem dX2_becomeAs_9 : decode cX2_becomeAs 9 = .ok (.aload_n 1, 1) := by decide +kernel
theorem dX2_becomeAs_10 : decode cX2_becomeAs 10 = .ok (.getfield 37, 3) := by decide +kernel
theorem dX2_becomeAs_13 : decode cX2_becomeAs 13 = .ok (.putfield 37, 3) := by decide +kernel
theorem dX2_becomeAs_16 : decode cX2_becomeAs 16 = .ok (.aload_n 0, 1) := by decide +kernel
theorem dX2_becomeAs_17 : decode cX2_becomeAs 17 = .ok (.aload_n 1, 1) := by decide +kernel
theorem dX2_becomeAs_18 : decode cX2_becomeAs 18 = .ok (.getfield 40, 3) := by decide +kernel
theorem dX2_becomeAs_21 : decode cX2_becomeAs 21 = .ok (.putfield 40, 3) := by decide +kernel
theorem dX2_becomeAs_24 : decode cX2_becomeAs 24 = .ok (.aload_n 0, 1) := by decide +kernel
theorem dX2_becomeAs_25 : decode cX2_becomeAs 25 = .ok (.aload_n 1, 1) := by decide +kernel
theorem dX2_becomeAs_26 : decode cX2_becomeAs 26 = .ok (.getfield 30, 3) := by decide +kernel
theorem dX2_becomeAs_29 : decode cX2_becomeAs 29 = .ok (.putfield 30, 3) := by decide +kernel
theorem dX2_becomeAs_32 : decode cX2_becomeAs 32 = .ok (.aload_n 1, 1) := by decide +kernel
theorem dX2_becomeAs_33 : decode cX2_becomeAs 33 = .ok (.getfield 9, 3) := by decide +kernel
theorem dX2_becomeAs_36 : decode cX2_becomeAs 36 = .ok (.iconst 0, 1) := by decide +kernel
theorem dX2_becomeAs_37 : decode cX2_becomeAs 37 = .ok (.aload_n 0, 1) := by decide +kernel
theorem dX2_becomeAs_38 : decode cX2_becomeAs 38 = .ok (.getfield 9, 3) := by decide +kernel
theorem dX2_becomeAs_41 : decode cX2_becomeAs 41 = .ok (.iconst 0, 1) := by decide +kernel
theorem dX2_becomeAs_42 : decode cX2_becomeAs 42 = .ok (.bipush 12, 2) := by decide +kernel
theorem dX2_becomeAs_44 : decode cX2_becomeAs 44 = .ok (.invokestatic 55, 3) := by decide +kernel
theorem dX2_becomeAs_47 : decode cX2_becomeAs 47 = .ok (.aload_n 1, 1) := by decide +kernel
theorem dX2_becomeAs_48 : decode cX2_becomeAs 48 = .ok (.getfield 15, 3) := by decide +kernel
theorem dX2_becomeAs_51 : decode cX2_becomeAs 51 = .ok (.iconst 0, 1) := by decide +kernel
theorem dX2_becomeAs_52 : decode cX2_becomeAs 52 = .ok (.aload_n 0, 1) := by decide +kernel
theorem dX2_becomeAs_53 : decode cX2_becomeAs 53 = .ok (.getfield 15, 3) := by decide +kernel
theorem dX2_becomeAs_56 : decode cX2_becomeAs 56 = .ok (.iconst 0, 1) := by decide +kernel
theorem dX2_becomeAs_57 : decode cX2_becomeAs 57 = .ok (.bipush 12, 2) := by decide +kernel
theorem dX2_becomeAs_59 : decode cX2_becomeAs 59 = .ok (.invokestatic 55, 3) := by decide +kernel
theorem dX2_becomeAs_62 : decode cX2_becomeAs 62 = .ok (.aload_n 1, 1) := by decide +kernel
theorem dX2_becomeAs_63 : decode cX2_becomeAs 63 = .ok (.getfield 18, 3) := by decide +kernel
theorem dX2_becomeAs_66 : decode cX2_becomeAs 66 = .ok (.iconst 0, 1) := by decide +kernel
theorem dX2_becomeAs_67 : decode cX2_becomeAs 67 = .ok (.aload_n 0, 1) := by decide +kernel
theorem dX2_becomeAs_68 : decode cX2_becomeAs 68 = .ok (.getfield 18, 3) := by decide +kernel
theorem dX2_becomeAs_71 : decode cX2_becomeAs 71 = .ok (.iconst 0, 1) := by decide +kernel
theorem dX2_becomeAs_72 : decode cX2_becomeAs 72 = .ok (.bipush 12, 2) := by decide +kernel
theorem dX2_becomeAs_74 : decode cX2_becomeAs 74 = .ok (.invokestatic 55, 3) := by decide +kernel
theorem dX2_becomeAs_77 : decode cX2_becomeAs 77 = .ok (.aload_n 1, 1) := by decide +kernel
theorem dX2_becomeAs_78 : decode cX2_becomeAs 78 = .ok (.getfield 21, 3) := by decide +kernel
theorem dX2_becomeAs_81 : decode cX2_becomeAs 81 = .ok (.iconst 0, 1) := by decide +kernel
theorem dX2_becomeAs_82 : decode cX2_becomeAs 82 = .ok (.aload_n 0, 1) := by decide +kernel
theorem dX2_becomeAs_83 : decode cX2_becomeAs 83 = .ok (.getfield 21, 3) := by decide +kernel
theorem dX2_becomeAs_86 : decode cX2_becomeAs 86 = .ok (.iconst 0, 1) := by decide +kernel
theorem dX2_becomeAs_87 : decode cX2_becomeAs 87 = .ok (.bipush 12, 2) := by decide +kernel
theorem dX2_becomeAs_89 : decode cX2_becomeAs 89 = .ok (.invokestatic 55, 3) := by decide +kernel
theorem dX2_becomeAs_92 : decode cX2_becomeAs 92 = .ok (.aload_n 1, 1) := by decide +kernel
theorem dX2_becomeAs_93 : decode cX2_becomeAs 93 = .ok (.getfield 24, 3) := by decide +kernel
theorem dX2_becomeAs_96 : decode cX2_becomeAs 96 = .ok (.iconst 0, 1) := by decide +kernel
theorem dX2_becomeAs_97 : decode cX2_becomeAs 97 = .ok (.aload_n 0, 1) := by decide +kernel
theorem dX2_becomeAs_98 : decode cX2_becomeAs 98 = .ok (.getfield 24, 3) := by decide +kernel
theorem dX2_becomeAs_101 : decode cX2_becomeAs 101 = .ok (.iconst 0, 1) := by decide +kernel
theorem dX2_becomeAs_102 : decode cX2_becomeAs 102 = .ok (.bipush 12, 2) := by decide +kernel
theorem dX2_becomeAs_104 : decode cX2_becomeAs 104 = .ok (.invokestatic 55, 3) := by decide +kernel
theorem dX2_becomeAs_107 : decode cX2_becomeAs 107 = .ok (.aload_n 1, 1) := by decide +kernel
theorem dX2_becomeAs_108 : decode cX2_becomeAs 108 = .ok (.getfield 27, 3) := by decide +kernel
theorem dX2_becomeAs_111 : decode cX2_becomeAs 111 = .ok (.iconst 0, 1) := by decide +kernel
theorem dX2_becomeAs_112 : decode cX2_becomeAs 112 = .ok (.aload_n 0, 1) := by decide +kernel
theorem dX2_becomeAs_113 : decode cX2_becomeAs 113 = .ok (.getfield 27, 3) := by decide +kernel
theorem dX2_becomeAs_116 : decode cX2_becomeAs 116 = .ok (.iconst 0, 1) := by decide +kernel
theorem dX2_becomeAs_117 : decode cX2_becomeAs 117 = .ok (.bipush 12, 2) := by decide +kernel
theorem dX2_becomeAs_119 : decode cX2_becomeAs 119 = .ok (.invokestatic 55, 3) := by decide +kernel
theorem dX2_becomeAs_122 : decode cX2_becomeAs 122 = .ok (.return_, 1) := by decide +kernel
theorem dX2_go_0 : decode cX2_go 0 = .ok (.aload_n 0, 1) := by decide +kernel
theorem dX2_go_1 : decode cX2_go 1 = .ok (.aload_n 1, 1) := by decide +kernel
theorem dX2_go_2 : decode cX2_go 2 = .ok (.getfield 61, 3) := by decide +kernel
theorem dX2_go_5 : decode cX2_go 5 = .ok (.aload_n 2, 1) := by decide +kernel
theorem dX2_go_6 : decode cX2_go 6 = .ok (.invokevirtual 64, 3) := by decide +kernel
theorem dX2_go_9 : decode cX2_go 9 = .ok (.iconst 0, 1) := by decide +kernel
theorem dX2_go_10 : decode cX2_go 10 = .ok (.istore 5, 2) := by decide +kernel
theorem dX2_go_12 : decode cX2_go 12 = .ok (.iload 5, 2) := by decide +kernel
theorem dX2_go_14 : decode cX2_go 14 = .ok (.aload_n 1, 1) := by decide +kernel
theorem dX2_go_15 : decode cX2_go 15 = .ok (.getfield 68, 3) := by decide +kernel
theorem dX2_go_18 : decode cX2_go 18 = .ok (.if_icmp .ge 34, 3) := by decide +kernel
theorem dX2_go_21 : decode cX2_go 21 = .ok (.iload 5, 2) := by decide +kernel
theorem dX2_go_23 : decode cX2_go 23 = .ok (.aload_n 3, 1) := by decide +kernel
theorem dX2_go_24 : decode cX2_go 24 = .ok (.arraylength, 1) := by decide +kernel
theorem dX2_go_25 : decode cX2_go 25 = .ok (.if_icmp .ge 27, 3) := by decide +kernel
theorem dX2_go_28 : decode cX2_go 28 = .ok (.aload_n 3, 1) := by decide +kernel
theorem dX2_go_29 : decode cX2_go 29 = .ok (.iload 5, 2) := by decide +kernel
theorem dX2_go_31 : decode cX2_go 31 = .ok (.iaload, 1) := by decide +kernel
theorem dX2_go_32 : decode cX2_go 32 = .ok (.iload 4, 2) := by decide +kernel
theorem dX2_go_34 : decode cX2_go 34 = .ok (.if_icmp .eq 12, 3) := by decide +kernel
theorem dX2_go_37 : decode cX2_go 37 = .ok (.aload_n 0, 1) := by decide +kernel
theorem dX2_go_38 : decode cX2_go 38 = .ok (.aload_n 1, 1) := by decide +kernel
theorem dX2_go_39 : decode cX2_go 39 = .ok (.aload_n 3, 1) := by decide +kernel
theorem dX2_go_40 : decode cX2_go 40 = .ok (.iload 5, 2) := by decide +kernel
theorem dX2_go_42 : decode cX2_go 42 = .ok (.iaload, 1) := by decide +kernel
theorem dX2_go_43 : decode cX2_go 43 = .ok (.invokevirtual 71, 3) := by decide +kernel
theorem dX2_go_46 : decode cX2_go 46 = .ok (.iinc 5 1, 3) := by decide +kernel
theorem dX2_go_49 : decode cX2_go 49 = .ok (.goto (-37), 3) := by decide +kernel
theorem dX2_go_52 : decode cX2_go 52 = .ok (.aload_n 0, 1) := by decide +kernel
theorem dX2_go_53 : decode cX2_go 53 = .ok (.invokevirtual 75, 3) := by decide +kernel
theorem dX2_go_56 : decode cX2_go 56 = .ok (.return_, 1) := by decide +kernel
theorem dX2_doSeam_0 : decode cX2_doSeam 0 = .ok (.aload_n 1, 1) := by decide +kernel
theorem dX2_doSeam_1 : decode cX2_doSeam 1 = .ok (.iload_n 2, 1) := by decide +kernel
theorem dX2_doSeam_2 : decode cX2_doSeam 2 = .ok (.invokevirtual 78, 3) := by decide +kernel
theorem dX2_doSeam_5 : decode cX2_doSeam 5 = .ok (.istore_n 3, 1) := by decide +kernel
theorem dX2_doSeam_6 : decode cX2_doSeam 6 = .ok (.iload_n 3, 1) := by decide +kernel
theorem dX2_doSeam_7 : decode cX2_doSeam 7 = .ok (.aload_n 1, 1) := by decide +kernel
theorem dX2_doSeam_8 : decode cX2_doSeam 8 = .ok (.iload_n 2, 1) := by decide +kernel
theorem dX2_doSeam_9 : decode cX2_doSeam 9 = .ok (.invokevirtual 82, 3) := by decide +kernel
theorem dX2_doSeam_12 : decode cX2_doSeam 12 = .ok (.if_icmp .ge 107, 3) := by decide +kernel
theorem dX2_doSeam_15 : decode cX2_doSeam 15 = .ok (.aload_n 1, 1) := by decide +kernel
theorem dX2_doSeam_16 : decode cX2_doSeam 16 = .ok (.getfield 85, 3) := by decide +kernel
theorem dX2_doSeam_19 : decode cX2_doSeam 19 = .ok (.iload_n 3, 1) := by decide +kernel
theorem dX2_doSeam_20 : decode cX2_doSeam 20 = .ok (.iaload, 1) := by decide +kernel
theorem dX2_doSeam_21 : decode cX2_doSeam 21 = .ok (.istore 4, 2) := by decide +kernel
theorem dX2_doSeam_23 : decode cX2_doSeam 23 = .ok (.aload_n 1, 1) := by decide +kernel
theorem dX2_doSeam_24 : decode cX2_doSeam 24 = .ok (.getfield 88, 3) := by decide +kernel
theorem dX2_doSeam_27 : decode cX2_doSeam 27 = .ok (.iload_n 3, 1) := by decide +kernel
theorem dX2_doSeam_28 : decode cX2_doSeam 28 = .ok (.iaload, 1) := by decide +kernel
theorem dX2_doSeam_29 : decode cX2_doSeam 29 = .ok (.tableswitch 66 7 9 #[27, 41, 57], 27) := by decide +kernel
theorem dX2_doSeam_56 : decode cX2_doSeam 56 = .ok (.aload_n 0, 1) := by decide +kernel
theorem dX2_doSeam_57 : decode cX2_doSeam 57 = .ok (.dup, 1) := by decide +kernel
theorem dX2_doSeam_58 : decode cX2_doSeam 58 = .ok (.getfield 37, 3) := by decide +kernel
theorem dX2_doSeam_61 : decode cX2_doSeam 61 = .ok (.iload 4, 2) := by decide +kernel
theorem dX2_doSeam_63 : decode cX2_doSeam 63 = .ok (.iadd, 1) := by decide +kernel
theorem dX2_doSeam_64 : decode cX2_doSeam 64 = .ok (.putfield 37, 3) := by decide +kernel
theorem dX2_doSeam_67 : decode cX2_doSeam 67 = .ok (.goto 46, 3) := by decide +kernel
theorem dX2_doSeam_70 : decode cX2_doSeam 70 = .ok (.aload_n 0, 1) := by decide +kernel
theorem dX2_doSeam_71 : decode cX2_doSeam 71 = .ok (.dup, 1) := by decide +kernel
theorem dX2_doSeam_72 : decode cX2_doSeam 72 = .ok (.getfield 30, 3) := by decide +kernel
theorem dX2_doSeam_75 : decode cX2_doSeam 75 = .ok (.iconst 1, 1) := by decide +kernel
theorem dX2_doSeam_76 : decode cX2_doSeam 76 = .ok (.iload 4, 2) := by decide +kernel
theorem dX2_doSeam_78 : decode cX2_doSeam 78 = .ok (.ishl, 1) := by decide +kernel
theorem dX2_doSeam_79 : decode cX2_doSeam 79 = .ok (.ior, 1) := by decide +kernel
theorem dX2_doSeam_80 : decode cX2_doSeam 80 = .ok (.putfield 30, 3) := by decide +kernel
theorem dX2_doSeam_83 : decode cX2_doSeam 83 = .ok (.goto 30, 3) := by decide +kernel
theorem dX2_doSeam_86 : decode cX2_doSeam 86 = .ok (.aload_n 0, 1) := by decide +kernel
theorem dX2_doSeam_87 : decode cX2_doSeam 87 = .ok (.iload 4, 2) := by decide +kernel
theorem dX2_doSeam_89 : decode cX2_doSeam 89 = .ok (.invokevirtual 91, 3) := by decide +kernel
theorem dX2_doSeam_92 : decode cX2_doSeam 92 = .ok (.goto 21, 3) := by decide +kernel
theorem dX2_doSeam_95 : decode cX2_doSeam 95 = .ok (.aload_n 0, 1) := by decide +kernel
theorem dX2_doSeam_96 : decode cX2_doSeam 96 = .ok (.aload_n 1, 1) := by decide +kernel
theorem dX2_doSeam_97 : decode cX2_doSeam 97 = .ok (.getfield 88, 3) := by decide +kernel
theorem dX2_doSeam_100 : decode cX2_doSeam 100 = .ok (.iload_n 3, 1) := by decide +kernel
theorem dX2_doSeam_101 : decode cX2_doSeam 101 = .ok (.iaload, 1) := by decide +kernel
theorem dX2_doSeam_102 : decode cX2_doSeam 102 = .ok (.iload 4, 2) := by decide +kernel
theorem dX2_doSeam_104 : decode cX2_doSeam 104 = .ok (.aload_n 1, 1) := by decide +kernel
theorem dX2_doSeam_105 : decode cX2_doSeam 105 = .ok (.getfield 95, 3) := by decide +kernel
theorem dX2_doSeam_108 : decode cX2_doSeam 108 = .ok (.iload_n 3, 1) := by decide +kernel
theorem dX2_doSeam_109 : decode cX2_doSeam 109 = .ok (.iaload, 1) := by decide +kernel
theorem dX2_doSeam_110 : decode cX2_doSeam 110 = .ok (.invokevirtual 98, 3) := by decide +kernel
theorem dX2_doSeam_113 : decode cX2_doSeam 113 = .ok (.iinc 3 1, 3) := by decide +kernel
theorem dX2_doSeam_116 : decode cX2_doSeam 116 = .ok (.goto (-110), 3) := by decide +kernel
theorem dX2_doSeam_119 : decode cX2_doSeam 119 = .ok (.return_, 1) := by decide +kernel
theorem dX2_doStep_0 : decode cX2_doStep 0 = .ok (.aload_n 0, 1) := by decide +kernel
theorem dX2_doStep_1 : decode cX2_doStep 1 = .ok (.iload_n 2, 1) := by decide +kernel
theorem dX2_doStep_2 : decode cX2_doStep 2 = .ok (.invokevirtual 102, 3) := by decide +kernel
theorem dX2_doStep_5 : decode cX2_doStep 5 = .ok (.ifCond .ne 4, 3) := by decide +kernel
theorem dX2_doStep_8 : decode cX2_doStep 8 = .ok (.return_, 1) := by decide +kernel
theorem dX2_doStep_9 : decode cX2_doStep 9 = .ok (.aload_n 0, 1) := by decide +kernel
theorem dX2_doStep_10 : decode cX2_doStep 10 = .ok (.iload_n 2, 1) := by decide +kernel
theorem dX2_doStep_11 : decode cX2_doStep 11 = .ok (.invokevirtual 106, 3) := by decide +kernel
theorem dX2_doStep_14 : decode cX2_doStep 14 = .ok (.aload_n 0, 1) := by decide +kernel
theorem dX2_doStep_15 : decode cX2_doStep 15 = .ok (.aload_n 0, 1) := by decide +kernel
theorem dX2_doStep_16 : decode cX2_doStep 16 = .ok (.iload_n 1, 1) := by decide +kernel
theorem dX2_doStep_17 : decode cX2_doStep 17 = .ok (.iload_n 2, 1) := by decide +kernel
theorem dX2_doStep_18 : decode cX2_doStep 18 = .ok (.iload_n 3, 1) := by decide +kernel
theorem dX2_doStep_19 : decode cX2_doStep 19 = .ok (.invokevirtual 109, 3) := by decide +kernel
theorem dX2_doStep_22 : decode cX2_doStep 22 = .ok (.iload_n 2, 1) := by decide +kernel
theorem dX2_doStep_23 : decode cX2_doStep 23 = .ok (.invokevirtual 113, 3) := by decide +kernel
theorem dX2_doStep_26 : decode cX2_doStep 26 = .ok (.istore 4, 2) := by decide +kernel
theorem dX2_doStep_28 : decode cX2_doStep 28 = .ok (.aload_n 0, 1) := by decide +kernel
theorem dX2_doStep_29 : decode cX2_doStep 29 = .ok (.iload_n 2, 1) := by decide +kernel
theorem dX2_doStep_30 : decode cX2_doStep 30 = .ok (.invokevirtual 116, 3) := by decide +kernel
theorem dX2_doStep_33 : decode cX2_doStep 33 = .ok (.ifCond .eq 17, 3) := by decide +kernel
theorem dX2_doStep_36 : decode cX2_doStep 36 = .ok (.aload_n 0, 1) := by decide +kernel
theorem dX2_doStep_37 : decode cX2_doStep 37 = .ok (.getfield 24, 3) := by decide +kernel
theorem dX2_doStep_40 : decode cX2_doStep 40 = .ok (.iload_n 2, 1) := by decide +kernel
theorem dX2_doStep_41 : decode cX2_doStep 41 = .ok (.dup2, 1) := by decide +kernel
theorem dX2_doStep_42 : decode cX2_doStep 42 = .ok (.iaload, 1) := by decide +kernel
theorem dX2_doStep_43 : decode cX2_doStep 43 = .ok (.iload 4, 2) := by decide +kernel
theorem dX2_doStep_45 : decode cX2_doStep 45 = .ok (.iadd, 1) := by decide +kernel
theorem dX2_doStep_46 : decode cX2_doStep 46 = .ok (.iastore, 1) := by decide +kernel
theorem dX2_doStep_47 : decode cX2_doStep 47 = .ok (.goto 14, 3) := by decide +kernel
theorem dX2_doStep_50 : decode cX2_doStep 50 = .ok (.aload_n 0, 1) := by decide +kernel
theorem dX2_doStep_51 : decode cX2_doStep 51 = .ok (.getfield 21, 3) := by decide +kernel
theorem dX2_doStep_54 : decode cX2_doStep 54 = .ok (.iload_n 2, 1) := by decide +kernel
theorem dX2_doStep_55 : decode cX2_doStep 55 = .ok (.dup2, 1) := by decide +kernel
theorem dX2_doStep_56 : decode cX2_doStep 56 = .ok (.iaload, 1) := by decide +kernel
theorem dX2_doStep_57 : decode cX2_doStep 57 = .ok (.iload 4, 2) := by decide +kernel
theorem dX2_doStep_59 : decode cX2_doStep 59 = .ok (.iadd, 1) := by decide +kernel
theorem dX2_doStep_60 : decode cX2_doStep 60 = .ok (.iastore, 1) := by decide +kernel
theorem dX2_doStep_61 : decode cX2_doStep 61 = .ok (.aload_n 0, 1) := by decide +kernel
theorem dX2_doStep_62 : decode cX2_doStep 62 = .ok (.getfield 27, 3) := by decide +kernel
theorem dX2_doStep_65 : decode cX2_doStep 65 = .ok (.iload_n 2, 1) := by decide +kernel
theorem dX2_doStep_66 : decode cX2_doStep 66 = .ok (.dup2, 1) := by decide +kernel
theorem dX2_doStep_67 : decode cX2_doStep 67 = .ok (.iaload, 1) := by decide +kernel
theorem dX2_doStep_68 : decode cX2_doStep 68 = .ok (.iload 4, 2) := by decide +kernel
theorem dX2_doStep_70 : decode cX2_doStep 70 = .ok (.iadd, 1) := by decide +kernel
theorem dX2_doStep_71 : decode cX2_doStep 71 = .ok (.iastore, 1) := by decide +kernel
theorem dX2_doStep_72 : decode cX2_doStep 72 = .ok (.aload_n 0, 1) := by decide +kernel
theorem dX2_doStep_73 : decode cX2_doStep 73 = .ok (.dup, 1) := by decide +kernel
theorem dX2_doStep_74 : decode cX2_doStep 74 = .ok (.getfield 40, 3) := by decide +kernel
theorem dX2_doStep_77 : decode cX2_doStep 77 = .ok (.iload 4, 2) := by decide +kernel
theorem dX2_doStep_79 : decode cX2_doStep 79 = .ok (.iadd, 1) := by decide +kernel
theorem dX2_doStep_80 : decode cX2_doStep 80 = .ok (.putfield 40, 3) := by decide +kernel
theorem dX2_doStep_83 : decode cX2_doStep 83 = .ok (.aload_n 0, 1) := by decide +kernel
theorem dX2_doStep_84 : decode cX2_doStep 84 = .ok (.getfield 9, 3) := by decide +kernel
theorem dX2_doStep_87 : decode cX2_doStep 87 = .ok (.iload_n 2, 1) := by decide +kernel
theorem dX2_doStep_88 : decode cX2_doStep 88 = .ok (.dup2, 1) := by decide +kernel
theorem dX2_doStep_89 : decode cX2_doStep 89 = .ok (.iaload, 1) := by decide +kernel
theorem dX2_doStep_90 : decode cX2_doStep 90 = .ok (.iload_n 1, 1) := by decide +kernel
theorem dX2_doStep_91 : decode cX2_doStep 91 = .ok (.iload_n 3, 1) := by decide +kernel
theorem dX2_doStep_92 : decode cX2_doStep 92 = .ok (.invokestatic 119, 3) := by decide +kernel
theorem dX2_doStep_95 : decode cX2_doStep 95 = .ok (.iadd, 1) := by decide +kernel
theorem dX2_doStep_96 : decode cX2_doStep 96 = .ok (.iastore, 1) := by decide +kernel
theorem dX2_doStep_97 : decode cX2_doStep 97 = .ok (.aload_n 0, 1) := by decide +kernel
theorem dX2_doStep_98 : decode cX2_doStep 98 = .ok (.getfield 18, 3) := by decide +kernel
theorem dX2_doStep_101 : decode cX2_doStep 101 = .ok (.iload_n 2, 1) := by decide +kernel
theorem dX2_doStep_102 : decode cX2_doStep 102 = .ok (.dup2, 1) := by decide +kernel
theorem dX2_doStep_103 : decode cX2_doStep 103 = .ok (.iaload, 1) := by decide +kernel
theorem dX2_doStep_104 : decode cX2_doStep 104 = .ok (.iload_n 1, 1) := by decide +kernel
theorem dX2_doStep_105 : decode cX2_doStep 105 = .ok (.invokestatic 122, 3) := by decide +kernel
theorem dX2_doStep_108 : decode cX2_doStep 108 = .ok (.iadd, 1) := by decide +kernel
theorem dX2_doStep_109 : decode cX2_doStep 109 = .ok (.iastore, 1) := by decide +kernel
theorem dX2_doStep_110 : decode cX2_doStep 110 = .ok (.aload_n 0, 1) := by decide +kernel
theorem dX2_doStep_111 : decode cX2_doStep 111 = .ok (.dup, 1) := by decide +kernel
theorem dX2_doStep_112 : decode cX2_doStep 112 = .ok (.getfield 37, 3) := by decide +kernel
theorem dX2_doStep_115 : decode cX2_doStep 115 = .ok (.iconst 1, 1) := by decide +kernel
theorem dX2_doStep_116 : decode cX2_doStep 116 = .ok (.iadd, 1) := by decide +kernel
theorem dX2_doStep_117 : decode cX2_doStep 117 = .ok (.putfield 37, 3) := by decide +kernel
theorem dX2_doStep_120 : decode cX2_doStep 120 = .ok (.return_, 1) := by decide +kernel
theorem dX2_effectOf_0 : decode cX2_effectOf 0 = .ok (.bipush 8, 2) := by decide +kernel
theorem dX2_effectOf_2 : decode cX2_effectOf 2 = .ok (.aload_n 0, 1) := by decide +kernel
theorem dX2_effectOf_3 : decode cX2_effectOf 3 = .ok (.getfield 18, 3) := by decide +kernel
theorem dX2_effectOf_6 : decode cX2_effectOf 6 = .ok (.iload_n 2, 1) := by decide +kernel
theorem dX2_effectOf_7 : decode cX2_effectOf 7 = .ok (.iaload, 1) := by decide +kernel
theorem dX2_effectOf_8 : decode cX2_effectOf 8 = .ok (.iadd, 1) := by decide +kernel
theorem dX2_effectOf_9 : decode cX2_effectOf 9 = .ok (.istore_n 3, 1) := by decide +kernel
theorem dX2_effectOf_10 : decode cX2_effectOf 10 = .ok (.iload_n 3, 1) := by decide +kernel
theorem dX2_effectOf_11 : decode cX2_effectOf 11 = .ok (.ifCond .le 12, 3) := by decide +kernel
theorem dX2_effectOf_14 : decode cX2_effectOf 14 = .ok (.bipush 8, 2) := by decide +kernel
theorem dX2_effectOf_16 : decode cX2_effectOf 16 = .ok (.iload_n 1, 1) := by decide +kernel
theorem dX2_effectOf_17 : decode cX2_effectOf 17 = .ok (.imul, 1) := by decide +kernel
theorem dX2_effectOf_18 : decode cX2_effectOf 18 = .ok (.iload_n 3, 1) := by decide +kernel
theorem dX2_effectOf_19 : decode cX2_effectOf 19 = .ok (.idiv, 1) := by decide +kernel
theorem dX2_effectOf_20 : decode cX2_effectOf 20 = .ok (.goto 4, 3) := by decide +kernel
theorem dX2_effectOf_23 : decode cX2_effectOf 23 = .ok (.iconst 0, 1) := by decide +kernel
theorem dX2_effectOf_24 : decode cX2_effectOf 24 = .ok (.istore 4, 2) := by decide +kernel
theorem dX2_effectOf_26 : decode cX2_effectOf 26 = .ok (.aload_n 0, 1) := by decide +kernel
theorem dX2_effectOf_27 : decode cX2_effectOf 27 = .ok (.getfield 9, 3) := by decide +kernel
theorem dX2_effectOf_30 : decode cX2_effectOf 30 = .ok (.iload_n 2, 1) := by decide +kernel
theorem dX2_effectOf_31 : decode cX2_effectOf 31 = .ok (.iaload, 1) := by decide +kernel
theorem dX2_effectOf_32 : decode cX2_effectOf 32 = .ok (.bipush 100, 2) := by decide +kernel
theorem dX2_effectOf_34 : decode cX2_effectOf 34 = .ok (.if_icmp .lt 10, 3) := by decide +kernel
theorem dX2_effectOf_37 : decode cX2_effectOf 37 = .ok (.iload 4, 2) := by decide +kernel
theorem dX2_effectOf_39 : decode cX2_effectOf 39 = .ok (.iconst 2, 1) := by decide +kernel
theorem dX2_effectOf_40 : decode cX2_effectOf 40 = .ok (.idiv, 1) := by decide +kernel
theorem dX2_effectOf_41 : decode cX2_effectOf 41 = .ok (.goto 5, 3) := by decide +kernel
theorem dX2_effectOf_44 : decode cX2_effectOf 44 = .ok (.iload 4, 2) := by decide +kernel
theorem dX2_effectOf_46 : decode cX2_effectOf 46 = .ok (.ireturn, 1) := by decide +kernel
theorem dX2_shrinkageOf_0 : decode cX2_shrinkageOf 0 = .ok (.aload_n 0, 1) := by decide +kernel
theorem dX2_shrinkageOf_1 : decode cX2_shrinkageOf 1 = .ok (.iload_n 2, 1) := by decide +kernel
theorem dX2_shrinkageOf_2 : decode cX2_shrinkageOf 2 = .ok (.iconst 1, 1) := by decide +kernel
theorem dX2_shrinkageOf_3 : decode cX2_shrinkageOf 3 = .ok (.iadd, 1) := by decide +kernel
theorem dX2_shrinkageOf_4 : decode cX2_shrinkageOf 4 = .ok (.invokevirtual 125, 3) := by decide +kernel
theorem dX2_shrinkageOf_7 : decode cX2_shrinkageOf 7 = .ok (.ifCond .eq 9, 3) := by decide +kernel
theorem dX2_shrinkageOf_10 : decode cX2_shrinkageOf 10 = .ok (.iload_n 3, 1) := by decide +kernel
theorem dX2_shrinkageOf_11 : decode cX2_shrinkageOf 11 = .ok (.iconst 1, 1) := by decide +kernel
theorem dX2_shrinkageOf_12 : decode cX2_shrinkageOf 12 = .ok (.isub, 1) := by decide +kernel
theorem dX2_shrinkageOf_13 : decode cX2_shrinkageOf 13 = .ok (.goto 4, 3) := by decide +kernel
theorem dX2_shrinkageOf_16 : decode cX2_shrinkageOf 16 = .ok (.iload_n 3, 1) := by decide +kernel
theorem dX2_shrinkageOf_17 : decode cX2_shrinkageOf 17 = .ok (.istore 4, 2) := by decide +kernel
theorem dX2_shrinkageOf_19 : decode cX2_shrinkageOf 19 = .ok (.iload_n 1, 1) := by decide +kernel
theorem dX2_shrinkageOf_20 : decode cX2_shrinkageOf 20 = .ok (.tableswitch 114 0 6 #[44, 114, 46, 49, 79, 95, 98], 44) := by decide +kernel
theorem dX2_shrinkageOf_64 : decode cX2_shrinkageOf 64 = .ok (.iconst 1, 1) := by decide +kernel
theorem dX2_shrinkageOf_65 : decode cX2_shrinkageOf 65 = .ok (.ireturn, 1) := by decide +kernel
theorem dX2_shrinkageOf_66 : decode cX2_shrinkageOf 66 = .ok (.iload 4, 2) := by decide +kernel
theorem dX2_shrinkageOf_68 : decode cX2_shrinkageOf 68 = .ok (.ireturn, 1) := by decide +kernel
theorem dX2_shrinkageOf_69 : decode cX2_shrinkageOf 69 = .ok (.aload_n 0, 1) := by decide +kernel
theorem dX2_shrinkageOf_70 : decode cX2_shrinkageOf 70 = .ok (.iload_n 2, 1) := by decide +kernel
theorem dX2_shrinkageOf_71 : decode cX2_shrinkageOf 71 = .ok (.iconst 1, 1) := by decide +kernel
theorem dX2_shrinkageOf_72 : decode cX2_shrinkageOf 72 = .ok (.isub, 1) := by decide +kernel
theorem dX2_shrinkageOf_73 : decode cX2_shrinkageOf 73 = .ok (.invokevirtual 125, 3) := by decide +kernel
theorem dX2_shrinkageOf_76 : decode cX2_shrinkageOf 76 = .ok (.ifCond .ne 13, 3) := by decide +kernel
theorem dX2_shrinkageOf_79 : decode cX2_shrinkageOf 79 = .ok (.aload_n 0, 1) := by decide +kernel
theorem dX2_shrinkageOf_80 : decode cX2_shrinkageOf 80 = .ok (.iload_n 2, 1) := by decide +kernel
theorem dX2_shrinkageOf_81 : decode cX2_shrinkageOf 81 = .ok (.iconst 1, 1) := by decide +kernel
theorem dX2_shrinkageOf_82 : decode cX2_shrinkageOf 82 = .ok (.iadd, 1) := by decide +kernel
theorem dX2_shrinkageOf_83 : decode cX2_shrinkageOf 83 = .ok (.invokevirtual 125, 3) := by decide +kernel
theorem dX2_shrinkageOf_86 : decode cX2_shrinkageOf 86 = .ok (.ifCond .eq 8, 3) := by decide +kernel
theorem dX2_shrinkageOf_89 : decode cX2_shrinkageOf 89 = .ok (.iload 4, 2) := by decide +kernel
theorem dX2_shrinkageOf_91 : decode cX2_shrinkageOf 91 = .ok (.goto 7, 3) := by decide +kernel
theorem dX2_shrinkageOf_94 : decode cX2_shrinkageOf 94 = .ok (.iload 4, 2) := by decide +kernel
theorem dX2_shrinkageOf_96 : decode cX2_shrinkageOf 96 = .ok (.iconst 1, 1) := by decide +kernel
theorem dX2_shrinkageOf_97 : decode cX2_shrinkageOf 97 = .ok (.isub, 1) := by decide +kernel
theorem dX2_shrinkageOf_98 : decode cX2_shrinkageOf 98 = .ok (.ireturn, 1) := by decide +kernel
theorem dX2_shrinkageOf_99 : decode cX2_shrinkageOf 99 = .ok (.aload_n 0, 1) := by decide +kernel
theorem dX2_shrinkageOf_100 : decode cX2_shrinkageOf 100 = .ok (.iload_n 2, 1) := by decide +kernel
theorem dX2_shrinkageOf_101 : decode cX2_shrinkageOf 101 = .ok (.invokevirtual 125, 3) := by decide +kernel
theorem dX2_shrinkageOf_104 : decode cX2_shrinkageOf 104 = .ok (.ifCond .eq 9, 3) := by decide +kernel
theorem dX2_shrinkageOf_107 : decode cX2_shrinkageOf 107 = .ok (.iload_n 3, 1) := by decide +kernel
theorem dX2_shrinkageOf_108 : decode cX2_shrinkageOf 108 = .ok (.iconst 2, 1) := by decide +kernel
theorem dX2_shrinkageOf_109 : decode cX2_shrinkageOf 109 = .ok (.idiv, 1) := by decide +kernel
theorem dX2_shrinkageOf_110 : decode cX2_shrinkageOf 110 = .ok (.goto 4, 3) := by decide +kernel
theorem dX2_shrinkageOf_113 : decode cX2_shrinkageOf 113 = .ok (.iload_n 3, 1) := by decide +kernel
theorem dX2_shrinkageOf_114 : decode cX2_shrinkageOf 114 = .ok (.ireturn, 1) := by decide +kernel
theorem dX2_shrinkageOf_115 : decode cX2_shrinkageOf 115 = .ok (.iload_n 3, 1) := by decide +kernel
theorem dX2_shrinkageOf_116 : decode cX2_shrinkageOf 116 = .ok (.ineg, 1) := by decide +kernel
theorem dX2_shrinkageOf_117 : decode cX2_shrinkageOf 117 = .ok (.ireturn, 1) := by decide +kernel
theorem dX2_shrinkageOf_118 : decode cX2_shrinkageOf 118 = .ok (.aload_n 0, 1) := by decide +kernel
theorem dX2_shrinkageOf_119 : decode cX2_shrinkageOf 119 = .ok (.getfield 21, 3) := by decide +kernel
theorem dX2_shrinkageOf_122 : decode cX2_shrinkageOf 122 = .ok (.iload_n 2, 1) := by decide +kernel
theorem dX2_shrinkageOf_123 : decode cX2_shrinkageOf 123 = .ok (.iaload, 1) := by decide +kernel
theorem dX2_shrinkageOf_124 : decode cX2_shrinkageOf 124 = .ok (.ifCond .le 8, 3) := by decide +kernel
theorem dX2_shrinkageOf_127 : decode cX2_shrinkageOf 127 = .ok (.iload_n 3, 1) := by decide +kernel
theorem dX2_shrinkageOf_128 : decode cX2_shrinkageOf 128 = .ok (.ineg, 1) := by decide +kernel
theorem dX2_shrinkageOf_129 : decode cX2_shrinkageOf 129 = .ok (.goto 4, 3) := by decide +kernel
theorem dX2_shrinkageOf_132 : decode cX2_shrinkageOf 132 = .ok (.iload_n 3, 1) := by decide +kernel
theorem dX2_shrinkageOf_133 : decode cX2_shrinkageOf 133 = .ok (.ireturn, 1) := by decide +kernel
theorem dX2_shrinkageOf_134 : decode cX2_shrinkageOf 134 = .ok (.iload_n 3, 1) := by decide +kernel
theorem dX2_shrinkageOf_135 : decode cX2_shrinkageOf 135 = .ok (.ireturn, 1) := by decide +kernel
theorem dX2_heatOfStep_0 : decode cX2_heatOfStep 0 = .ok (.iload_n 0, 1) := by decide +kernel
theorem dX2_heatOfStep_1 : decode cX2_heatOfStep 1 = .ok (.lookupswitch 34 #[(0, 27), (6, 29)], 27) := by decide +kernel
theorem dX2_heatOfStep_28 : decode cX2_heatOfStep 28 = .ok (.iload_n 1, 1) := by decide +kernel
theorem dX2_heatOfStep_29 : decode cX2_heatOfStep 29 = .ok (.ireturn, 1) := by decide +kernel
theorem dX2_heatOfStep_30 : decode cX2_heatOfStep 30 = .ok (.bipush 6, 2) := by decide +kernel
theorem dX2_heatOfStep_32 : decode cX2_heatOfStep 32 = .ok (.iload_n 1, 1) := by decide +kernel
theorem dX2_heatOfStep_33 : decode cX2_heatOfStep 33 = .ok (.imul, 1) := by decide +kernel
theorem dX2_heatOfStep_34 : decode cX2_heatOfStep 34 = .ok (.ireturn, 1) := by decide +kernel
theorem dX2_heatOfStep_35 : decode cX2_heatOfStep 35 = .ok (.iconst 4, 1) := by decide +kernel
theorem dX2_heatOfStep_36 : decode cX2_heatOfStep 36 = .ok (.iload_n 1, 1) := by decide +kernel
theorem dX2_heatOfStep_37 : decode cX2_heatOfStep 37 = .ok (.imul, 1) := by decide +kernel
theorem dX2_heatOfStep_38 : decode cX2_heatOfStep 38 = .ok (.ireturn, 1) := by decide +kernel
theorem dX2_holdOfStep_0 : decode cX2_holdOfStep 0 = .ok (.iload_n 0, 1) := by decide +kernel
theorem dX2_holdOfStep_1 : decode cX2_holdOfStep 1 = .ok (.lookupswitch 39 #[(0, 35), (4, 35), (6, 37)], 35) := by decide +kernel
theorem dX2_holdOfStep_36 : decode cX2_holdOfStep 36 = .ok (.iconst 1, 1) := by decide +kernel
theorem dX2_holdOfStep_37 : decode cX2_holdOfStep 37 = .ok (.ireturn, 1) := by decide +kernel
theorem dX2_holdOfStep_38 : decode cX2_holdOfStep 38 = .ok (.iconst 0, 1) := by decide +kernel
theorem dX2_holdOfStep_39 : decode cX2_holdOfStep 39 = .ok (.ireturn, 1) := by decide +kernel
theorem dX2_holdOfStep_40 : decode cX2_holdOfStep 40 = .ok (.iconst 2, 1) := by decide +kernel
theorem dX2_holdOfStep_41 : decode cX2_holdOfStep 41 = .ok (.ireturn, 1) := by decide +kernel
theorem dX2_freeOne_0 : decode cX2_freeOne 0 = .ok (.aload_n 0, 1) := by decide +kernel
theorem dX2_freeOne_1 : decode cX2_freeOne 1 = .ok (.iload_n 1, 1) := by decide +kernel
theorem dX2_freeOne_2 : decode cX2_freeOne 2 = .ok (.invokevirtual 102, 3) := by decide +kernel
theorem dX2_freeOne_5 : decode cX2_freeOne 5 = .ok (.ifCond .eq 49, 3) := by decide +kernel
theorem dX2_freeOne_8 : decode cX2_freeOne 8 = .ok (.aload_n 0, 1) := by decide +kernel
theorem dX2_freeOne_9 : decode cX2_freeOne 9 = .ok (.iload_n 1, 1) := by decide +kernel
theorem dX2_freeOne_10 : decode cX2_freeOne 10 = .ok (.invokevirtual 116, 3) := by decide +kernel
theorem dX2_freeOne_13 : decode cX2_freeOne 13 = .ok (.ifCond .eq 41, 3) := by decide +kernel
theorem dX2_freeOne_16 : decode cX2_freeOne 16 = .ok (.aload_n 0, 1) := by decide +kernel
theorem dX2_freeOne_17 : decode cX2_freeOne 17 = .ok (.dup, 1) := by decide +kernel
theorem dX2_freeOne_18 : decode cX2_freeOne 18 = .ok (.getfield 30, 3) := by decide +kernel
theorem dX2_freeOne_21 : decode cX2_freeOne 21 = .ok (.iconst 1, 1) := by decide +kernel
theorem dX2_freeOne_22 : decode cX2_freeOne 22 = .ok (.iload_n 1, 1) := by decide +kernel
theorem dX2_freeOne_23 : decode cX2_freeOne 23 = .ok (.ishl, 1) := by decide +kernel
theorem dX2_freeOne_24 : decode cX2_freeOne 24 = .ok (.iconst (-1), 1) := by decide +kernel
theorem dX2_freeOne_25 : decode cX2_freeOne 25 = .ok (.ixor, 1) := by decide +kernel
theorem dX2_freeOne_26 : decode cX2_freeOne 26 = .ok (.iand, 1) := by decide +kernel
theorem dX2_freeOne_27 : decode cX2_freeOne 27 = .ok (.putfield 30, 3) := by decide +kernel
theorem dX2_freeOne_30 : decode cX2_freeOne 30 = .ok (.aload_n 0, 1) := by decide +kernel
theorem dX2_freeOne_31 : decode cX2_freeOne 31 = .ok (.getfield 21, 3) := by decide +kernel
theorem dX2_freeOne_34 : decode cX2_freeOne 34 = .ok (.iload_n 1, 1) := by decide +kernel
theorem dX2_freeOne_35 : decode cX2_freeOne 35 = .ok (.dup2, 1) := by decide +kernel
theorem dX2_freeOne_36 : decode cX2_freeOne 36 = .ok (.iaload, 1) := by decide +kernel
theorem dX2_freeOne_37 : decode cX2_freeOne 37 = .ok (.aload_n 0, 1) := by decide +kernel
theorem dX2_freeOne_38 : decode cX2_freeOne 38 = .ok (.getfield 24, 3) := by decide +kernel
theorem dX2_freeOne_41 : decode cX2_freeOne 41 = .ok (.iload_n 1, 1) := by decide +kernel
theorem dX2_freeOne_42 : decode cX2_freeOne 42 = .ok (.iaload, 1) := by decide +kernel
theorem dX2_freeOne_43 : decode cX2_freeOne 43 = .ok (.iconst 2, 1) := by decide +kernel
theorem dX2_freeOne_44 : decode cX2_freeOne 44 = .ok (.idiv, 1) := by decide +kernel
theorem dX2_freeOne_45 : decode cX2_freeOne 45 = .ok (.iadd, 1) := by decide +kernel
theorem dX2_freeOne_46 : decode cX2_freeOne 46 = .ok (.iastore, 1) := by decide +kernel
theorem dX2_freeOne_47 : decode cX2_freeOne 47 = .ok (.aload_n 0, 1) := by decide +kernel
theorem dX2_freeOne_48 : decode cX2_freeOne 48 = .ok (.getfield 24, 3) := by decide +kernel
theorem dX2_freeOne_51 : decode cX2_freeOne 51 = .ok (.iload_n 1, 1) := by decide +kernel
theorem dX2_freeOne_52 : decode cX2_freeOne 52 = .ok (.iconst 0, 1) := by decide +kernel
theorem dX2_freeOne_53 : decode cX2_freeOne 53 = .ok (.iastore, 1) := by decide +kernel
theorem dX2_freeOne_54 : decode cX2_freeOne 54 = .ok (.return_, 1) := by decide +kernel
theorem dX2_freeAll_0 : decode cX2_freeAll 0 = .ok (.iconst 0, 1) := by decide +kernel
theorem dX2_freeAll_1 : decode cX2_freeAll 1 = .ok (.istore_n 1, 1) := by decide +kernel
theorem dX2_freeAll_2 : decode cX2_freeAll 2 = .ok (.iload_n 1, 1) := by decide +kernel
theorem dX2_freeAll_3 : decode cX2_freeAll 3 = .ok (.aload_n 0, 1) := by decide +kernel
theorem dX2_freeAll_4 : decode cX2_freeAll 4 = .ok (.getfield 34, 3) := by decide +kernel
theorem dX2_freeAll_7 : decode cX2_freeAll 7 = .ok (.if_icmp .ge 14, 3) := by decide +kernel
theorem dX2_freeAll_10 : decode cX2_freeAll 10 = .ok (.aload_n 0, 1) := by decide +kernel
theorem dX2_freeAll_11 : decode cX2_freeAll 11 = .ok (.iload_n 1, 1) := by decide +kernel
theorem dX2_freeAll_12 : decode cX2_freeAll 12 = .ok (.invokevirtual 91, 3) := by decide +kernel
theorem dX2_freeAll_15 : decode cX2_freeAll 15 = .ok (.iinc 1 1, 3) := by decide +kernel
theorem dX2_freeAll_18 : decode cX2_freeAll 18 = .ok (.goto (-16), 3) := by decide +kernel
theorem dX2_freeAll_21 : decode cX2_freeAll 21 = .ok (.return_, 1) := by decide +kernel
theorem dX2_has_0 : decode cX2_has 0 = .ok (.iload_n 1, 1) := by decide +kernel
theorem dX2_has_1 : decode cX2_has 1 = .ok (.ifCond .lt 15, 3) := by decide +kernel
theorem dX2_has_4 : decode cX2_has 4 = .ok (.iload_n 1, 1) := by decide +kernel
theorem dX2_has_5 : decode cX2_has 5 = .ok (.aload_n 0, 1) := by decide +kernel
theorem dX2_has_6 : decode cX2_has 6 = .ok (.getfield 34, 3) := by decide +kernel
theorem dX2_has_9 : decode cX2_has 9 = .ok (.if_icmp .ge 7, 3) := by decide +kernel
theorem dX2_has_12 : decode cX2_has 12 = .ok (.iconst 1, 1) := by decide +kernel
theorem dX2_has_13 : decode cX2_has 13 = .ok (.goto 4, 3) := by decide +kernel
theorem dX2_has_16 : decode cX2_has 16 = .ok (.iconst 0, 1) := by decide +kernel
theorem dX2_has_17 : decode cX2_has 17 = .ok (.ireturn, 1) := by decide +kernel
theorem dX2_holds_0 : decode cX2_holds 0 = .ok (.iload_n 1, 1) := by decide +kernel
theorem dX2_holds_1 : decode cX2_holds 1 = .ok (.ifCond .lt 24, 3) := by decide +kernel
theorem dX2_holds_4 : decode cX2_holds 4 = .ok (.iload_n 1, 1) := by decide +kernel
theorem dX2_holds_5 : decode cX2_holds 5 = .ok (.aload_n 0, 1) := by decide +kernel
theorem dX2_holds_6 : decode cX2_holds 6 = .ok (.getfield 34, 3) := by decide +kernel
theorem dX2_holds_9 : decode cX2_holds 9 = .ok (.if_icmp .ge 16, 3) := by decide +kernel
theorem dX2_holds_12 : decode cX2_holds 12 = .ok (.aload_n 0, 1) := by decide +kernel
theorem dX2_holds_13 : decode cX2_holds 13 = .ok (.getfield 18, 3) := by decide +kernel
theorem dX2_holds_16 : decode cX2_holds 16 = .ok (.iload_n 1, 1) := by decide +kernel
theorem dX2_holds_17 : decode cX2_holds 17 = .ok (.iaload, 1) := by decide +kernel
theorem dX2_holds_18 : decode cX2_holds 18 = .ok (.ifCond .le 7, 3) := by decide +kernel
theorem dX2_holds_21 : decode cX2_holds 21 = .ok (.iconst 1, 1) := by decide +kernel
theorem dX2_holds_22 : decode cX2_holds 22 = .ok (.goto 4, 3) := by decide +kernel
theorem dX2_holds_25 : decode cX2_holds 25 = .ok (.iconst 0, 1) := by decide +kernel
theorem dX2_holds_26 : decode cX2_holds 26 = .ok (.ireturn, 1) := by decide +kernel
theorem dX2_isClamped_0 : decode cX2_isClamped 0 = .ok (.aload_n 0, 1) := by decide +kernel
theorem dX2_isClamped_1 : decode cX2_isClamped 1 = .ok (.getfield 30, 3) := by decide +kernel
theorem dX2_isClamped_4 : decode cX2_isClamped 4 = .ok (.iload_n 1, 1) := by decide +kernel
theorem dX2_isClamped_5 : decode cX2_isClamped 5 = .ok (.ishr, 1) := by decide +kernel
theorem dX2_isClamped_6 : decode cX2_isClamped 6 = .ok (.iconst 1, 1) := by decide +kernel
theorem dX2_isClamped_7 : decode cX2_isClamped 7 = .ok (.iand, 1) := by decide +kernel
theorem dX2_isClamped_8 : decode cX2_isClamped 8 = .ok (.iconst 1, 1) := by decide +kernel
theorem dX2_isClamped_9 : decode cX2_isClamped 9 = .ok (.if_icmp .ne 7, 3) := by decide +kernel
theorem dX2_isClamped_12 : decode cX2_isClamped 12 = .ok (.iconst 1, 1) := by decide +kernel
theorem dX2_isClamped_13 : decode cX2_isClamped 13 = .ok (.goto 4, 3) := by decide +kernel
theorem dX2_isClamped_16 : decode cX2_isClamped 16 = .ok (.iconst 0, 1) := by decide +kernel
theorem dX2_isClamped_17 : decode cX2_isClamped 17 = .ok (.ireturn, 1) := by decide +kernel
theorem dX2_cool_0 : decode cX2_cool 0 = .ok (.aload_n 0, 1) := by decide +kernel
theorem dX2_cool_1 : decode cX2_cool 1 = .ok (.getfield 15, 3) := by decide +kernel
theorem dX2_cool_4 : decode cX2_cool 4 = .ok (.iload_n 1, 1) := by decide +kernel
theorem dX2_cool_5 : decode cX2_cool 5 = .ok (.iaload, 1) := by decide +kernel
theorem dX2_cool_6 : decode cX2_cool 6 = .ok (.istore_n 2, 1) := by decide +kernel
theorem dX2_cool_7 : decode cX2_cool 7 = .ok (.iload_n 2, 1) := by decide +kernel
theorem dX2_cool_8 : decode cX2_cool 8 = .ok (.aload_n 0, 1) := by decide +kernel
theorem dX2_cool_9 : decode cX2_cool 9 = .ok (.getfield 37, 3) := by decide +kernel
theorem dX2_cool_12 : decode cX2_cool 12 = .ok (.if_icmp .ge 34, 3) := by decide +kernel
theorem dX2_cool_15 : decode cX2_cool 15 = .ok (.aload_n 0, 1) := by decide +kernel
theorem dX2_cool_16 : decode cX2_cool 16 = .ok (.getfield 9, 3) := by decide +kernel
theorem dX2_cool_19 : decode cX2_cool 19 = .ok (.iload_n 1, 1) := by decide +kernel
theorem dX2_cool_20 : decode cX2_cool 20 = .ok (.iaload, 1) := by decide +kernel
theorem dX2_cool_21 : decode cX2_cool 21 = .ok (.ifCond .le 25, 3) := by decide +kernel
theorem dX2_cool_24 : decode cX2_cool 24 = .ok (.aload_n 0, 1) := by decide +kernel
theorem dX2_cool_25 : decode cX2_cool 25 = .ok (.getfield 9, 3) := by decide +kernel
theorem dX2_cool_28 : decode cX2_cool 28 = .ok (.iload_n 1, 1) := by decide +kernel
theorem dX2_cool_29 : decode cX2_cool 29 = .ok (.aload_n 0, 1) := by decide +kernel
theorem dX2_cool_30 : decode cX2_cool 30 = .ok (.getfield 9, 3) := by decide +kernel
theorem dX2_cool_33 : decode cX2_cool 33 = .ok (.iload_n 1, 1) := by decide +kernel
theorem dX2_cool_34 : decode cX2_cool 34 = .ok (.iaload, 1) := by decide +kernel
theorem dX2_cool_35 : decode cX2_cool 35 = .ok (.iconst 3, 1) := by decide +kernel
theorem dX2_cool_36 : decode cX2_cool 36 = .ok (.imul, 1) := by decide +kernel
theorem dX2_cool_37 : decode cX2_cool 37 = .ok (.iconst 4, 1) := by decide +kernel
theorem dX2_cool_38 : decode cX2_cool 38 = .ok (.idiv, 1) := by decide +kernel
theorem dX2_cool_39 : decode cX2_cool 39 = .ok (.iastore, 1) := by decide +kernel
theorem dX2_cool_40 : decode cX2_cool 40 = .ok (.iinc 2 1, 3) := by decide +kernel
theorem dX2_cool_43 : decode cX2_cool 43 = .ok (.goto (-36), 3) := by decide +kernel
theorem dX2_cool_46 : decode cX2_cool 46 = .ok (.aload_n 0, 1) := by decide +kernel
theorem dX2_cool_47 : decode cX2_cool 47 = .ok (.getfield 15, 3) := by decide +kernel
theorem dX2_cool_50 : decode cX2_cool 50 = .ok (.iload_n 1, 1) := by decide +kernel
theorem dX2_cool_51 : decode cX2_cool 51 = .ok (.aload_n 0, 1) := by decide +kernel
theorem dX2_cool_52 : decode cX2_cool 52 = .ok (.getfield 37, 3) := by decide +kernel
theorem dX2_cool_55 : decode cX2_cool 55 = .ok (.iastore, 1) := by decide +kernel
theorem dX2_cool_56 : decode cX2_cool 56 = .ok (.return_, 1) := by decide +kernel
theorem dX2_heatOf_0 : decode cX2_heatOf 0 = .ok (.aload_n 0, 1) := by decide +kernel
theorem dX2_heatOf_1 : decode cX2_heatOf 1 = .ok (.iload_n 1, 1) := by decide +kernel
theorem dX2_heatOf_2 : decode cX2_heatOf 2 = .ok (.invokevirtual 102, 3) := by decide +kernel
theorem dX2_heatOf_5 : decode cX2_heatOf 5 = .ok (.ifCond .ne 5, 3) := by decide +kernel
theorem dX2_heatOf_8 : decode cX2_heatOf 8 = .ok (.iconst 0, 1) := by decide +kernel
theorem dX2_heatOf_9 : decode cX2_heatOf 9 = .ok (.ireturn, 1) := by decide +kernel
theorem dX2_heatOf_10 : decode cX2_heatOf 10 = .ok (.aload_n 0, 1) := by decide +kernel
theorem dX2_heatOf_11 : decode cX2_heatOf 11 = .ok (.iload_n 1, 1) := by decide +kernel
theorem dX2_heatOf_12 : decode cX2_heatOf 12 = .ok (.invokevirtual 106, 3) := by decide +kernel
theorem dX2_heatOf_15 : decode cX2_heatOf 15 = .ok (.aload_n 0, 1) := by decide +kernel
theorem dX2_heatOf_16 : decode cX2_heatOf 16 = .ok (.getfield 9, 3) := by decide +kernel
theorem dX2_heatOf_19 : decode cX2_heatOf 19 = .ok (.iload_n 1, 1) := by decide +kernel
theorem dX2_heatOf_20 : decode cX2_heatOf 20 = .ok (.iaload, 1) := by decide +kernel
theorem dX2_heatOf_21 : decode cX2_heatOf 21 = .ok (.ireturn, 1) := by decide +kernel
theorem dX2_pullOf_0 : decode cX2_pullOf 0 = .ok (.aload_n 0, 1) := by decide +kernel
theorem dX2_pullOf_1 : decode cX2_pullOf 1 = .ok (.iload_n 1, 1) := by decide +kernel
theorem dX2_pullOf_2 : decode cX2_pullOf 2 = .ok (.invokevirtual 102, 3) := by decide +kernel
theorem dX2_pullOf_5 : decode cX2_pullOf 5 = .ok (.ifCond .eq 22, 3) := by decide +kernel
theorem dX2_pullOf_8 : decode cX2_pullOf 8 = .ok (.aload_n 0, 1) := by decide +kernel
theorem dX2_pullOf_9 : decode cX2_pullOf 9 = .ok (.getfield 34, 3) := by decide +kernel
theorem dX2_pullOf_12 : decode cX2_pullOf 12 = .ok (.aload_n 0, 1) := by decide +kernel
theorem dX2_pullOf_13 : decode cX2_pullOf 13 = .ok (.getfield 27, 3) := by decide +kernel
theorem dX2_pullOf_16 : decode cX2_pullOf 16 = .ok (.iload_n 1, 1) := by decide +kernel
theorem dX2_pullOf_17 : decode cX2_pullOf 17 = .ok (.iaload, 1) := by decide +kernel
theorem dX2_pullOf_18 : decode cX2_pullOf 18 = .ok (.imul, 1) := by decide +kernel
theorem dX2_pullOf_19 : decode cX2_pullOf 19 = .ok (.aload_n 0, 1) := by decide +kernel
theorem dX2_pullOf_20 : decode cX2_pullOf 20 = .ok (.getfield 40, 3) := by decide +kernel
theorem dX2_pullOf_23 : decode cX2_pullOf 23 = .ok (.isub, 1) := by decide +kernel
theorem dX2_pullOf_24 : decode cX2_pullOf 24 = .ok (.goto 4, 3) := by decide +kernel
theorem dX2_pullOf_27 : decode cX2_pullOf 27 = .ok (.iconst 0, 1) := by decide +kernel
theorem dX2_pullOf_28 : decode cX2_pullOf 28 = .ok (.ireturn, 1) := by decide +kernel
theorem dX2_firstAbove_0 : decode cX2_firstAbove 0 = .ok (.iconst 0, 1) := by decide +kernel
theorem dX2_firstAbove_1 : decode cX2_firstAbove 1 = .ok (.istore_n 2, 1) := by decide +kernel
theorem dX2_firstAbove_2 : decode cX2_firstAbove 2 = .ok (.iload_n 2, 1) := by decide +kernel
theorem dX2_firstAbove_3 : decode cX2_firstAbove 3 = .ok (.aload_n 0, 1) := by decide +kernel
theorem dX2_firstAbove_4 : decode cX2_firstAbove 4 = .ok (.getfield 34, 3) := by decide +kernel
theorem dX2_firstAbove_7 : decode cX2_firstAbove 7 = .ok (.if_icmp .ge 20, 3) := by decide +kernel
theorem dX2_firstAbove_10 : decode cX2_firstAbove 10 = .ok (.aload_n 0, 1) := by decide +kernel
theorem dX2_firstAbove_11 : decode cX2_firstAbove 11 = .ok (.iload_n 2, 1) := by decide +kernel
theorem dX2_firstAbove_12 : decode cX2_firstAbove 12 = .ok (.invokevirtual 128, 3) := by decide +kernel
theorem dX2_firstAbove_15 : decode cX2_firstAbove 15 = .ok (.iload_n 1, 1) := by decide +kernel
theorem dX2_firstAbove_16 : decode cX2_firstAbove 16 = .ok (.if_icmp .le 5, 3) := by decide +kernel
theorem dX2_firstAbove_19 : decode cX2_firstAbove 19 = .ok (.iload_n 2, 1) := by decide +kernel
theorem dX2_firstAbove_20 : decode cX2_firstAbove 20 = .ok (.ireturn, 1) := by decide +kernel
theorem dX2_firstAbove_21 : decode cX2_firstAbove 21 = .ok (.iinc 2 1, 3) := by decide +kernel
theorem dX2_firstAbove_24 : decode cX2_firstAbove 24 = .ok (.goto (-22), 3) := by decide +kernel
theorem dX2_firstAbove_27 : decode cX2_firstAbove 27 = .ok (.ldc 131, 2) := by decide +kernel
theorem dX2_firstAbove_29 : decode cX2_firstAbove 29 = .ok (.ireturn, 1) := by decide +kernel
theorem dX2_heightAt_0 : decode cX2_heightAt 0 = .ok (.iconst 0, 1) := by decide +kernel
theorem dX2_heightAt_1 : decode cX2_heightAt 1 = .ok (.istore_n 2, 1) := by decide +kernel
theorem dX2_heightAt_2 : decode cX2_heightAt 2 = .ok (.iconst 0, 1) := by decide +kernel
theorem dX2_heightAt_3 : decode cX2_heightAt 3 = .ok (.istore_n 3, 1) := by decide +kernel
theorem dX2_heightAt_4 : decode cX2_heightAt 4 = .ok (.iconst 0, 1) := by decide +kernel
theorem dX2_heightAt_5 : decode cX2_heightAt 5 = .ok (.istore 4, 2) := by decide +kernel
theorem dX2_heightAt_7 : decode cX2_heightAt 7 = .ok (.iload 4, 2) := by decide +kernel
theorem dX2_heightAt_9 : decode cX2_heightAt 9 = .ok (.iload_n 1, 1) := by decide +kernel
theorem dX2_heightAt_10 : decode cX2_heightAt 10 = .ok (.if_icmp .ge 32, 3) := by decide +kernel
theorem dX2_heightAt_13 : decode cX2_heightAt 13 = .ok (.iload 4, 2) := by decide +kernel
theorem dX2_heightAt_15 : decode cX2_heightAt 15 = .ok (.aload_n 0, 1) := by decide +kernel
theorem dX2_heightAt_16 : decode cX2_heightAt 16 = .ok (.getfield 34, 3) := by decide +kernel
theorem dX2_heightAt_19 : decode cX2_heightAt 19 = .ok (.if_icmp .ge 23, 3) := by decide +kernel
theorem dX2_heightAt_22 : decode cX2_heightAt 22 = .ok (.iload_n 2, 1) := by decide +kernel
theorem dX2_heightAt_23 : decode cX2_heightAt 23 = .ok (.aload_n 0, 1) := by decide +kernel
theorem dX2_heightAt_24 : decode cX2_heightAt 24 = .ok (.getfield 21, 3) := by decide +kernel
theorem dX2_heightAt_27 : decode cX2_heightAt 27 = .ok (.iload 4, 2) := by decide +kernel
theorem dX2_heightAt_29 : decode cX2_heightAt 29 = .ok (.iaload, 1) := by decide +kernel
theorem dX2_heightAt_30 : decode cX2_heightAt 30 = .ok (.iadd, 1) := by decide +kernel
theorem dX2_heightAt_31 : decode cX2_heightAt 31 = .ok (.istore_n 2, 1) := by decide +kernel
theorem dX2_heightAt_32 : decode cX2_heightAt 32 = .ok (.iload_n 3, 1) := by decide +kernel
theorem dX2_heightAt_33 : decode cX2_heightAt 33 = .ok (.iload_n 2, 1) := by decide +kernel
theorem dX2_heightAt_34 : decode cX2_heightAt 34 = .ok (.iadd, 1) := by decide +kernel
theorem dX2_heightAt_35 : decode cX2_heightAt 35 = .ok (.istore_n 3, 1) := by decide +kernel
theorem dX2_heightAt_36 : decode cX2_heightAt 36 = .ok (.iinc 4 1, 3) := by decide +kernel
theorem dX2_heightAt_39 : decode cX2_heightAt 39 = .ok (.goto (-32), 3) := by decide +kernel
theorem dX2_heightAt_42 : decode cX2_heightAt 42 = .ok (.iload_n 3, 1) := by decide +kernel
theorem dX2_heightAt_43 : decode cX2_heightAt 43 = .ok (.ireturn, 1) := by decide +kernel
theorem dX2_off_0 : decode cX2_off 0 = .ok (.aload_n 0, 1) := by decide +kernel
theorem dX2_off_1 : decode cX2_off 1 = .ok (.aload_n 0, 1) := by decide +kernel
theorem dX2_off_2 : decode cX2_off 2 = .ok (.getfield 34, 3) := by decide +kernel
theorem dX2_off_5 : decode cX2_off 5 = .ok (.invokevirtual 132, 3) := by decide +kernel
theorem dX2_off_8 : decode cX2_off 8 = .ok (.istore_n 1, 1) := by decide +kernel
theorem dX2_off_9 : decode cX2_off 9 = .ok (.iconst 0, 1) := by decide +kernel
theorem dX2_off_10 : decode cX2_off 10 = .ok (.istore_n 2, 1) := by decide +kernel
theorem dX2_off_11 : decode cX2_off 11 = .ok (.iconst 0, 1) := by decide +kernel
theorem dX2_off_12 : decode cX2_off 12 = .ok (.istore_n 3, 1) := by decide +kernel
theorem dX2_off_13 : decode cX2_off 13 = .ok (.iconst 0, 1) := by decide +kernel
theorem dX2_off_14 : decode cX2_off 14 = .ok (.istore 4, 2) := by decide +kernel
theorem dX2_off_16 : decode cX2_off 16 = .ok (.iconst 0, 1) := by decide +kernel
theorem dX2_off_17 : decode cX2_off 17 = .ok (.istore 5, 2) := by decide +kernel
theorem dX2_off_19 : decode cX2_off 19 = .ok (.iload 5, 2) := by decide +kernel
theorem dX2_off_21 : decode cX2_off 21 = .ok (.aload_n 0, 1) := by decide +kernel
theorem dX2_off_22 : decode cX2_off 22 = .ok (.getfield 34, 3) := by decide +kernel
theorem dX2_off_25 : decode cX2_off 25 = .ok (.if_icmp .ge 46, 3) := by decide +kernel
theorem dX2_off_28 : decode cX2_off 28 = .ok (.iload_n 2, 1) := by decide +kernel
theorem dX2_off_29 : decode cX2_off 29 = .ok (.aload_n 0, 1) := by decide +kernel
theorem dX2_off_30 : decode cX2_off 30 = .ok (.getfield 21, 3) := by decide +kernel
theorem dX2_off_33 : decode cX2_off 33 = .ok (.iload 5, 2) := by decide +kernel
theorem dX2_off_35 : decode cX2_off 35 = .ok (.iaload, 1) := by decide +kernel
theorem dX2_off_36 : decode cX2_off 36 = .ok (.iadd, 1) := by decide +kernel
theorem dX2_off_37 : decode cX2_off 37 = .ok (.istore_n 2, 1) := by decide +kernel
theorem dX2_off_38 : decode cX2_off 38 = .ok (.iload_n 3, 1) := by decide +kernel
theorem dX2_off_39 : decode cX2_off 39 = .ok (.iload_n 2, 1) := by decide +kernel
theorem dX2_off_40 : decode cX2_off 40 = .ok (.iadd, 1) := by decide +kernel
theorem dX2_off_41 : decode cX2_off 41 = .ok (.istore_n 3, 1) := by decide +kernel
theorem dX2_off_42 : decode cX2_off 42 = .ok (.iload 4, 2) := by decide +kernel
theorem dX2_off_44 : decode cX2_off 44 = .ok (.aload_n 0, 1) := by decide +kernel
theorem dX2_off_45 : decode cX2_off 45 = .ok (.getfield 34, 3) := by decide +kernel
theorem dX2_off_48 : decode cX2_off 48 = .ok (.iload_n 3, 1) := by decide +kernel
theorem dX2_off_49 : decode cX2_off 49 = .ok (.imul, 1) := by decide +kernel
theorem dX2_off_50 : decode cX2_off 50 = .ok (.iload 5, 2) := by decide +kernel
theorem dX2_off_52 : decode cX2_off 52 = .ok (.iconst 1, 1) := by decide +kernel
theorem dX2_off_53 : decode cX2_off 53 = .ok (.iadd, 1) := by decide +kernel
theorem dX2_off_54 : decode cX2_off 54 = .ok (.iload_n 1, 1) := by decide +kernel
theorem dX2_off_55 : decode cX2_off 55 = .ok (.imul, 1) := by decide +kernel
theorem dX2_off_56 : decode cX2_off 56 = .ok (.isub, 1) := by decide +kernel
theorem dX2_off_57 : decode cX2_off 57 = .ok (.invokestatic 135, 3) := by decide +kernel
theorem dX2_off_60 : decode cX2_off 60 = .ok (.invokestatic 138, 3) := by decide +kernel
theorem dX2_off_63 : decode cX2_off 63 = .ok (.istore 4, 2) := by decide +kernel
theorem dX2_off_65 : decode cX2_off 65 = .ok (.iinc 5 1, 3) := by decide +kernel
theorem dX2_off_68 : decode cX2_off 68 = .ok (.goto (-49), 3) := by decide +kernel
theorem dX2_off_71 : decode cX2_off 71 = .ok (.aload_n 0, 1) := by decide +kernel
theorem dX2_off_72 : decode cX2_off 72 = .ok (.getfield 34, 3) := by decide +kernel
theorem dX2_off_75 : decode cX2_off 75 = .ok (.ifCond .le 13, 3) := by decide +kernel
theorem dX2_off_78 : decode cX2_off 78 = .ok (.iload 4, 2) := by decide +kernel
theorem dX2_off_80 : decode cX2_off 80 = .ok (.aload_n 0, 1) := by decide +kernel
theorem dX2_off_81 : decode cX2_off 81 = .ok (.getfield 34, 3) := by decide +kernel
theorem dX2_off_84 : decode cX2_off 84 = .ok (.idiv, 1) := by decide +kernel
theorem dX2_off_85 : decode cX2_off 85 = .ok (.goto 4, 3) := by decide +kernel
theorem dX2_off_88 : decode cX2_off 88 = .ok (.iconst 0, 1) := by decide +kernel
theorem dX2_off_89 : decode cX2_off 89 = .ok (.ireturn, 1) := by decide +kernel
theorem dX3_init_0 : decode cX3_init 0 = .ok (.aload_n 0, 1) := by decide +kernel
theorem dX3_init_1 : decode cX3_init 1 = .ok (.invokespecial 3, 3) := by decide +kernel
theorem dX3_init_4 : decode cX3_init 4 = .ok (.aload_n 0, 1) := by decide +kernel
theorem dX3_init_5 : decode cX3_init 5 = .ok (.iconst 0, 1) := by decide +kernel
theorem dX3_init_6 : decode cX3_init 6 = .ok (.putfield 9, 3) := by decide +kernel
theorem dX3_init_9 : decode cX3_init 9 = .ok (.aload_n 0, 1) := by decide +kernel
theorem dX3_init_10 : decode cX3_init 10 = .ok (.iconst 0, 1) := by decide +kernel
theorem dX3_init_11 : decode cX3_init 11 = .ok (.putfield 15, 3) := by decide +kernel
theorem dX3_init_14 : decode cX3_init 14 = .ok (.aload_n 0, 1) := by decide +kernel
theorem dX3_init_15 : decode cX3_init 15 = .ok (.iconst 0, 1) := by decide +kernel
theorem dX3_init_16 : decode cX3_init 16 = .ok (.putfield 18, 3) := by decide +kernel
theorem dX3_init_19 : decode cX3_init 19 = .ok (.aload_n 0, 1) := by decide +kernel
theorem dX3_init_20 : decode cX3_init 20 = .ok (.iconst 0, 1) := by decide +kernel
theorem dX3_init_21 : decode cX3_init 21 = .ok (.putfield 21, 3) := by decide +kernel
theorem dX3_init_24 : decode cX3_init 24 = .ok (.aload_n 0, 1) := by decide +kernel
theorem dX3_init_25 : decode cX3_init 25 = .ok (.bipush 40, 2) := by decide +kernel
theorem dX3_init_27 : decode cX3_init 27 = .ok (.newarray .int, 2) := by decide +kernel
theorem dX3_init_29 : decode cX3_init 29 = .ok (.putfield 24, 3) := by decide +kernel
theorem dX3_init_32 : decode cX3_init 32 = .ok (.aload_n 0, 1) := by decide +kernel
theorem dX3_init_33 : decode cX3_init 33 = .ok (.bipush 40, 2) := by decide +kernel
theorem dX3_init_35 : decode cX3_init 35 = .ok (.newarray .int, 2) := by decide +kernel
theorem dX3_init_37 : decode cX3_init 37 = .ok (.putfield 28, 3) := by decide +kernel
theorem dX3_init_40 : decode cX3_init 40 = .ok (.aload_n 0, 1) := by decide +kernel
theorem dX3_init_41 : decode cX3_init 41 = .ok (.bipush 40, 2) := by decide +kernel
theorem dX3_init_43 : decode cX3_init 43 = .ok (.newarray .int, 2) := by decide +kernel
theorem dX3_init_45 : decode cX3_init 45 = .ok (.putfield 31, 3) := by decide +kernel
theorem dX3_init_48 : decode cX3_init 48 = .ok (.aload_n 0, 1) := by decide +kernel
theorem dX3_init_49 : decode cX3_init 49 = .ok (.bipush 40, 2) := by decide +kernel
theorem dX3_init_51 : decode cX3_init 51 = .ok (.newarray .int, 2) := by decide +kernel
theorem dX3_init_53 : decode cX3_init 53 = .ok (.putfield 34, 3) := by decide +kernel
theorem dX3_init_56 : decode cX3_init 56 = .ok (.aload_n 0, 1) := by decide +kernel
theorem dX3_init_57 : decode cX3_init 57 = .ok (.bipush 6, 2) := by decide +kernel
theorem dX3_init_59 : decode cX3_init 59 = .ok (.newarray .int, 2) := by decide +kernel
theorem dX3_init_61 : decode cX3_init 61 = .ok (.putfield 37, 3) := by decide +kernel
theorem dX3_init_64 : decode cX3_init 64 = .ok (.aload_n 0, 1) := by decide +kernel
theorem dX3_init_65 : decode cX3_init 65 = .ok (.bipush 6, 2) := by decide +kernel
theorem dX3_init_67 : decode cX3_init 67 = .ok (.newarray .int, 2) := by decide +kernel
theorem dX3_init_69 : decode cX3_init 69 = .ok (.putfield 40, 3) := by decide +kernel
theorem dX3_init_72 : decode cX3_init 72 = .ok (.return_, 1) := by decide +kernel
theorem dX3_clear_0 : decode cX3_clear 0 = .ok (.aload_n 0, 1) := by decide +kernel
theorem dX3_clear_1 : decode cX3_clear 1 = .ok (.iconst 0, 1) := by decide +kernel
theorem dX3_clear_2 : decode cX3_clear 2 = .ok (.putfield 9, 3) := by decide +kernel
theorem dX3_clear_5 : decode cX3_clear 5 = .ok (.aload_n 0, 1) := by decide +kernel
theorem dX3_clear_6 : decode cX3_clear 6 = .ok (.iconst 0, 1) := by decide +kernel
theorem dX3_clear_7 : decode cX3_clear 7 = .ok (.putfield 15, 3) := by decide +kernel
theorem dX3_clear_10 : decode cX3_clear 10 = .ok (.aload_n 0, 1) := by decide +kernel
theorem dX3_clear_11 : decode cX3_clear 11 = .ok (.iconst 0, 1) := by decide +kernel
theorem dX3_clear_12 : decode cX3_clear 12 = .ok (.putfield 18, 3) := by decide +kernel
theorem dX3_clear_15 : decode cX3_clear 15 = .ok (.aload_n 0, 1) := by decide +kernel
theorem dX3_clear_16 : decode cX3_clear 16 = .ok (.iconst 0, 1) := by decide +kernel
theorem dX3_clear_17 : decode cX3_clear 17 = .ok (.putfield 21, 3) := by decide +kernel
theorem dX3_clear_20 : decode cX3_clear 20 = .ok (.aload_n 0, 1) := by decide +kernel
theorem dX3_clear_21 : decode cX3_clear 21 = .ok (.getfield 40, 3) := by decide +kernel
theorem dX3_clear_24 : decode cX3_clear 24 = .ok (.iconst 0, 1) := by decide +kernel
theorem dX3_clear_25 : decode cX3_clear 25 = .ok (.invokestatic 43, 3) := by decide +kernel
theorem dX3_clear_28 : decode cX3_clear 28 = .ok (.return_, 1) := by decide +kernel
theorem dX3_isNone_0 : decode cX3_isNone 0 = .ok (.aload_n 0, 1) := by decide +kernel
theorem dX3_isNone_1 : decode cX3_isNone 1 = .ok (.getfield 9, 3) := by decide +kernel
theorem dX3_isNone_4 : decode cX3_isNone 4 = .ok (.ifCond .ne 7, 3) := by decide +kernel
theorem dX3_isNone_7 : decode cX3_isNone 7 = .ok (.iconst 1, 1) := by decide +kernel
theorem dX3_isNone_8 : decode cX3_isNone 8 = .ok (.goto 4, 3) := by decide +kernel
theorem dX3_isNone_11 : decode cX3_isNone 11 = .ok (.iconst 0, 1) := by decide +kernel
theorem dX3_isNone_12 : decode cX3_isNone 12 = .ok (.ireturn, 1) := by decide +kernel
theorem dX3_hasCell_0 : decode cX3_hasCell 0 = .ok (.iload_n 1, 1) := by decide +kernel
theorem dX3_hasCell_1 : decode cX3_hasCell 1 = .ok (.ifCond .lt 15, 3) := by decide +kernel
theorem dX3_hasCell_4 : decode cX3_hasCell 4 = .ok (.iload_n 1, 1) := by decide +kernel
theorem dX3_hasCell_5 : decode cX3_hasCell 5 = .ok (.aload_n 0, 1) := by decide +kernel
theorem dX3_hasCell_6 : decode cX3_hasCell 6 = .ok (.getfield 9, 3) := by decide +kernel
theorem dX3_hasCell_9 : decode cX3_hasCell 9 = .ok (.if_icmp .ge 7, 3) := by decide +kernel
theorem dX3_hasCell_12 : decode cX3_hasCell 12 = .ok (.iconst 1, 1) := by decide +kernel
theorem dX3_hasCell_13 : decode cX3_hasCell 13 = .ok (.goto 4, 3) := by decide +kernel
theorem dX3_hasCell_16 : decode cX3_hasCell 16 = .ok (.iconst 0, 1) := by decide +kernel
theorem dX3_hasCell_17 : decode cX3_hasCell 17 = .ok (.ireturn, 1) := by decide +kernel
theorem dX3_hasSeam_0 : decode cX3_hasSeam 0 = .ok (.iload_n 1, 1) := by decide +kernel
theorem dX3_hasSeam_1 : decode cX3_hasSeam 1 = .ok (.ifCond .lt 15, 3) := by decide +kernel
theorem dX3_hasSeam_4 : decode cX3_hasSeam 4 = .ok (.iload_n 1, 1) := by decide +kernel
theorem dX3_hasSeam_5 : decode cX3_hasSeam 5 = .ok (.aload_n 0, 1) := by decide +kernel
theorem dX3_hasSeam_6 : decode cX3_hasSeam 6 = .ok (.getfield 15, 3) := by decide +kernel
theorem dX3_hasSeam_9 : decode cX3_hasSeam 9 = .ok (.if_icmp .ge 7, 3) := by decide +kernel
theorem dX3_hasSeam_12 : decode cX3_hasSeam 12 = .ok (.iconst 1, 1) := by decide +kernel
theorem dX3_hasSeam_13 : decode cX3_hasSeam 13 = .ok (.goto 4, 3) := by decide +kernel
theorem dX3_hasSeam_16 : decode cX3_hasSeam 16 = .ok (.iconst 0, 1) := by decide +kernel
theorem dX3_hasSeam_17 : decode cX3_hasSeam 17 = .ok (.ireturn, 1) := by decide +kernel
theorem dX3_hasAct_0 : decode cX3_hasAct 0 = .ok (.iload_n 1, 1) := by decide +kernel
theorem dX3_hasAct_1 : decode cX3_hasAct 1 = .ok (.ifCond .lt 15, 3) := by decide +kernel
theorem dX3_hasAct_4 : decode cX3_hasAct 4 = .ok (.iload_n 1, 1) := by decide +kernel
theorem dX3_hasAct_5 : decode cX3_hasAct 5 = .ok (.aload_n 0, 1) := by decide +kernel
theorem dX3_hasAct_6 : decode cX3_hasAct 6 = .ok (.getfield 18, 3) := by decide +kernel
theorem dX3_hasAct_9 : decode cX3_hasAct 9 = .ok (.if_icmp .ge 7, 3) := by decide +kernel
theorem dX3_hasAct_12 : decode cX3_hasAct 12 = .ok (.iconst 1, 1) := by decide +kernel
theorem dX3_hasAct_13 : decode cX3_hasAct 13 = .ok (.goto 4, 3) := by decide +kernel
theorem dX3_hasAct_16 : decode cX3_hasAct 16 = .ok (.iconst 0, 1) := by decide +kernel
theorem dX3_hasAct_17 : decode cX3_hasAct 17 = .ok (.ireturn, 1) := by decide +kernel
theorem dX3_isStep_0 : decode cX3_isStep 0 = .ok (.aload_n 0, 1) := by decide +kernel
theorem dX3_isStep_1 : decode cX3_isStep 1 = .ok (.iload_n 1, 1) := by decide +kernel
theorem dX3_isStep_2 : decode cX3_isStep 2 = .ok (.invokevirtual 49, 3) := by decide +kernel
theorem dX3_isStep_5 : decode cX3_isStep 5 = .ok (.ifCond .eq 18, 3) := by decide +kernel
theorem dX3_isStep_8 : decode cX3_isStep 8 = .ok (.aload_n 0, 1) := by decide +kernel
theorem dX3_isStep_9 : decode cX3_isStep 9 = .ok (.getfield 24, 3) := by decide +kernel
theorem dX3_isStep_12 : decode cX3_isStep 12 = .ok (.iload_n 1, 1) := by decide +kernel
theorem dX3_isStep_13 : decode cX3_isStep 13 = .ok (.iaload, 1) := by decide +kernel
theorem dX3_isStep_14 : decode cX3_isStep 14 = .ok (.bipush 6, 2) := by decide +kernel
theorem dX3_isStep_16 : decode cX3_isStep 16 = .ok (.if_icmp .gt 7, 3) := by decide +kernel
theorem dX3_isStep_19 : decode cX3_isStep 19 = .ok (.iconst 1, 1) := by decide +kernel
theorem dX3_isStep_20 : decode cX3_isStep 20 = .ok (.goto 4, 3) := by decide +kernel
theorem dX3_isStep_23 : decode cX3_isStep 23 = .ok (.iconst 0, 1) := by decide +kernel
theorem dX3_isStep_24 : decode cX3_isStep 24 = .ok (.ireturn, 1) := by decide +kernel
theorem dX3_stepKind_0 : decode cX3_stepKind 0 = .ok (.aload_n 0, 1) := by decide +kernel
theorem dX3_stepKind_1 : decode cX3_stepKind 1 = .ok (.getfield 24, 3) := by decide +kernel
theorem dX3_stepKind_4 : decode cX3_stepKind 4 = .ok (.iload_n 1, 1) := by decide +kernel
theorem dX3_stepKind_5 : decode cX3_stepKind 5 = .ok (.iaload, 1) := by decide +kernel
theorem dX3_stepKind_6 : decode cX3_stepKind 6 = .ok (.iconst 1, 1) := by decide +kernel
theorem dX3_stepKind_7 : decode cX3_stepKind 7 = .ok (.iadd, 1) := by decide +kernel
theorem dX3_stepKind_8 : decode cX3_stepKind 8 = .ok (.ireturn, 1) := by decide +kernel
theorem dX3_addAct_0 : decode cX3_addAct 0 = .ok (.aload_n 0, 1) := by decide +kernel
theorem dX3_addAct_1 : decode cX3_addAct 1 = .ok (.getfield 18, 3) := by decide +kernel
theorem dX3_addAct_4 : decode cX3_addAct 4 = .ok (.bipush 40, 2) := by decide +kernel
theorem dX3_addAct_6 : decode cX3_addAct 6 = .ok (.if_icmp .ge 56, 3) := by decide +kernel
theorem dX3_addAct_9 : decode cX3_addAct 9 = .ok (.aload_n 0, 1) := by decide +kernel
theorem dX3_addAct_10 : decode cX3_addAct 10 = .ok (.getfield 24, 3) := by decide +kernel
theorem dX3_addAct_13 : decode cX3_addAct 13 = .ok (.aload_n 0, 1) := by decide +kernel
theorem dX3_addAct_14 : decode cX3_addAct 14 = .ok (.getfield 18, 3) := by decide +kernel
theorem dX3_addAct_17 : decode cX3_addAct 17 = .ok (.iload_n 1, 1) := by decide +kernel
theorem dX3_addAct_18 : decode cX3_addAct 18 = .ok (.iastore, 1) := by decide +kernel
theorem dX3_addAct_19 : decode cX3_addAct 19 = .ok (.aload_n 0, 1) := by decide +kernel
theorem dX3_addAct_20 : decode cX3_addAct 20 = .ok (.getfield 28, 3) := by decide +kernel
theorem dX3_addAct_23 : decode cX3_addAct 23 = .ok (.aload_n 0, 1) := by decide +kernel
theorem dX3_addAct_24 : decode cX3_addAct 24 = .ok (.getfield 18, 3) := by decide +kernel
theorem dX3_addAct_27 : decode cX3_addAct 27 = .ok (.iload_n 2, 1) := by decide +kernel
theorem dX3_addAct_28 : decode cX3_addAct 28 = .ok (.iastore, 1) := by decide +kernel
theorem dX3_addAct_29 : decode cX3_addAct 29 = .ok (.aload_n 0, 1) := by decide +kernel
theorem dX3_addAct_30 : decode cX3_addAct 30 = .ok (.getfield 31, 3) := by decide +kernel
theorem dX3_addAct_33 : decode cX3_addAct 33 = .ok (.aload_n 0, 1) := by decide +kernel
theorem dX3_addAct_34 : decode cX3_addAct 34 = .ok (.getfield 18, 3) := by decide +kernel
theorem dX3_addAct_37 : decode cX3_addAct 37 = .ok (.iload_n 3, 1) := by decide +kernel
theorem dX3_addAct_38 : decode cX3_addAct 38 = .ok (.iastore, 1) := by decide +kernel
theorem dX3_addAct_39 : decode cX3_addAct 39 = .ok (.aload_n 0, 1) := by decide +kernel
theorem dX3_addAct_40 : decode cX3_addAct 40 = .ok (.getfield 34, 3) := by decide +kernel
theorem dX3_addAct_43 : decode cX3_addAct 43 = .ok (.aload_n 0, 1) := by decide +kernel
theorem dX3_addAct_44 : decode cX3_addAct 44 = .ok (.getfield 18, 3) := by decide +kernel
theorem dX3_addAct_47 : decode cX3_addAct 47 = .ok (.aload_n 0, 1) := by decide +kernel
theorem dX3_addAct_48 : decode cX3_addAct 48 = .ok (.getfield 15, 3) := by decide +kernel
theorem dX3_addAct_51 : decode cX3_addAct 51 = .ok (.iastore, 1) := by decide +kernel
theorem dX3_addAct_52 : decode cX3_addAct 52 = .ok (.aload_n 0, 1) := by decide +kernel
theorem dX3_addAct_53 : decode cX3_addAct 53 = .ok (.dup, 1) := by decide +kernel
theorem dX3_addAct_54 : decode cX3_addAct 54 = .ok (.getfield 18, 3) := by decide +kernel
theorem dX3_addAct_57 : decode cX3_addAct 57 = .ok (.iconst 1, 1) := by decide +kernel
theorem dX3_addAct_58 : decode cX3_addAct 58 = .ok (.iadd, 1) := by decide +kernel
theorem dX3_addAct_59 : decode cX3_addAct 59 = .ok (.putfield 18, 3) := by decide +kernel
theorem dX3_addAct_62 : decode cX3_addAct 62 = .ok (.return_, 1) := by decide +kernel
theorem dX3_endSeam_0 : decode cX3_endSeam 0 = .ok (.aload_n 0, 1) := by decide +kernel
theorem dX3_endSeam_1 : decode cX3_endSeam 1 = .ok (.getfield 15, 3) := by decide +kernel
theorem dX3_endSeam_4 : decode cX3_endSeam 4 = .ok (.bipush 6, 2) := by decide +kernel
theorem dX3_endSeam_6 : decode cX3_endSeam 6 = .ok (.if_icmp .ge 26, 3) := by decide +kernel
theorem dX3_endSeam_9 : decode cX3_endSeam 9 = .ok (.aload_n 0, 1) := by decide +kernel
theorem dX3_endSeam_10 : decode cX3_endSeam 10 = .ok (.getfield 37, 3) := by decide +kernel
theorem dX3_endSeam_13 : decode cX3_endSeam 13 = .ok (.aload_n 0, 1) := by decide +kernel
theorem dX3_endSeam_14 : decode cX3_endSeam 14 = .ok (.getfield 15, 3) := by decide +kernel
theorem dX3_endSeam_17 : decode cX3_endSeam 17 = .ok (.aload_n 0, 1) := by decide +kernel
theorem dX3_endSeam_18 : decode cX3_endSeam 18 = .ok (.getfield 18, 3) := by decide +kernel
theorem dX3_endSeam_21 : decode cX3_endSeam 21 = .ok (.iastore, 1) := by decide +kernel
theorem dX3_endSeam_22 : decode cX3_endSeam 22 = .ok (.aload_n 0, 1) := by decide +kernel
theorem dX3_endSeam_23 : decode cX3_endSeam 23 = .ok (.dup, 1) := by decide +kernel
theorem dX3_endSeam_24 : decode cX3_endSeam 24 = .ok (.getfield 15, 3) := by decide +kernel
theorem dX3_endSeam_27 : decode cX3_endSeam 27 = .ok (.iconst 1, 1) := by decide +kernel
theorem dX3_endSeam_28 : decode cX3_endSeam 28 = .ok (.iadd, 1) := by decide +kernel
theorem dX3_endSeam_29 : decode cX3_endSeam 29 = .ok (.putfield 15, 3) := by decide +kernel
theorem dX3_endSeam_32 : decode cX3_endSeam 32 = .ok (.return_, 1) := by decide +kernel
theorem dX3_addBefore_0 : decode cX3_addBefore 0 = .ok (.aload_n 0, 1) := by decide +kernel
theorem dX3_addBefore_1 : decode cX3_addBefore 1 = .ok (.iload_n 1, 1) := by decide +kernel
theorem dX3_addBefore_2 : decode cX3_addBefore 2 = .ok (.invokevirtual 53, 3) := by decide +kernel
theorem dX3_addBefore_5 : decode cX3_addBefore 5 = .ok (.ifCond .eq 33, 3) := by decide +kernel
theorem dX3_addBefore_8 : decode cX3_addBefore 8 = .ok (.aload_n 0, 1) := by decide +kernel
theorem dX3_addBefore_9 : decode cX3_addBefore 9 = .ok (.iload_n 2, 1) := by decide +kernel
theorem dX3_addBefore_10 : decode cX3_addBefore 10 = .ok (.invokevirtual 53, 3) := by decide +kernel
theorem dX3_addBefore_13 : decode cX3_addBefore 13 = .ok (.ifCond .eq 25, 3) := by decide +kernel
theorem dX3_addBefore_16 : decode cX3_addBefore 16 = .ok (.aload_n 0, 1) := by decide +kernel
theorem dX3_addBefore_17 : decode cX3_addBefore 17 = .ok (.getfield 40, 3) := by decide +kernel
theorem dX3_addBefore_20 : decode cX3_addBefore 20 = .ok (.iload_n 2, 1) := by decide +kernel
theorem dX3_addBefore_21 : decode cX3_addBefore 21 = .ok (.dup2, 1) := by decide +kernel
theorem dX3_addBefore_22 : decode cX3_addBefore 22 = .ok (.iaload, 1) := by decide +kernel
theorem dX3_addBefore_23 : decode cX3_addBefore 23 = .ok (.iconst 1, 1) := by decide +kernel
theorem dX3_addBefore_24 : decode cX3_addBefore 24 = .ok (.iload_n 1, 1) := by decide +kernel
theorem dX3_addBefore_25 : decode cX3_addBefore 25 = .ok (.ishl, 1) := by decide +kernel
theorem dX3_addBefore_26 : decode cX3_addBefore 26 = .ok (.ior, 1) := by decide +kernel
theorem dX3_addBefore_27 : decode cX3_addBefore 27 = .ok (.iastore, 1) := by decide +kernel
theorem dX3_addBefore_28 : decode cX3_addBefore 28 = .ok (.aload_n 0, 1) := by decide +kernel
theorem dX3_addBefore_29 : decode cX3_addBefore 29 = .ok (.dup, 1) := by decide +kernel
theorem dX3_addBefore_30 : decode cX3_addBefore 30 = .ok (.getfield 21, 3) := by decide +kernel
theorem dX3_addBefore_33 : decode cX3_addBefore 33 = .ok (.iconst 1, 1) := by decide +kernel
theorem dX3_addBefore_34 : decode cX3_addBefore 34 = .ok (.iadd, 1) := by decide +kernel
theorem dX3_addBefore_35 : decode cX3_addBefore 35 = .ok (.putfield 21, 3) := by decide +kernel
theorem dX3_addBefore_38 : decode cX3_addBefore 38 = .ok (.return_, 1) := by decide +kernel
theorem dX3_firstAct_0 : decode cX3_firstAct 0 = .ok (.iload_n 1, 1) := by decide +kernel
theorem dX3_firstAct_1 : decode cX3_firstAct 1 = .ok (.ifCond .le 22, 3) := by decide +kernel
theorem dX3_firstAct_4 : decode cX3_firstAct 4 = .ok (.iload_n 1, 1) := by decide +kernel
theorem dX3_firstAct_5 : decode cX3_firstAct 5 = .ok (.aload_n 0, 1) := by decide +kernel
theorem dX3_firstAct_6 : decode cX3_firstAct 6 = .ok (.getfield 15, 3) := by decide +kernel
theorem dX3_firstAct_9 : decode cX3_firstAct 9 = .ok (.if_icmp .ge 14, 3) := by decide +kernel
theorem dX3_firstAct_12 : decode cX3_firstAct 12 = .ok (.aload_n 0, 1) := by decide +kernel
theorem dX3_firstAct_13 : decode cX3_firstAct 13 = .ok (.getfield 37, 3) := by decide +kernel
theorem dX3_firstAct_16 : decode cX3_firstAct 16 = .ok (.iload_n 1, 1) := by decide +kernel
theorem dX3_firstAct_17 : decode cX3_firstAct 17 = .ok (.iconst 1, 1) := by decide +kernel
theorem dX3_firstAct_18 : decode cX3_firstAct 18 = .ok (.isub, 1) := by decide +kernel
theorem dX3_firstAct_19 : decode cX3_firstAct 19 = .ok (.iaload, 1) := by decide +kernel
theorem dX3_firstAct_20 : decode cX3_firstAct 20 = .ok (.goto 4, 3) := by decide +kernel
theorem dX3_firstAct_23 : decode cX3_firstAct 23 = .ok (.iconst 0, 1) := by decide +kernel
theorem dX3_firstAct_24 : decode cX3_firstAct 24 = .ok (.ireturn, 1) := by decide +kernel
theorem dX3_endOfActs_0 : decode cX3_endOfActs 0 = .ok (.aload_n 0, 1) := by decide +kernel
theorem dX3_endOfActs_1 : decode cX3_endOfActs 1 = .ok (.iload_n 1, 1) := by decide +kernel
theorem dX3_endOfActs_2 : decode cX3_endOfActs 2 = .ok (.invokevirtual 53, 3) := by decide +kernel
theorem dX3_endOfActs_5 : decode cX3_endOfActs 5 = .ok (.ifCond .eq 12, 3) := by decide +kernel
theorem dX3_endOfActs_8 : decode cX3_endOfActs 8 = .ok (.aload_n 0, 1) := by decide +kernel
theorem dX3_endOfActs_9 : decode cX3_endOfActs 9 = .ok (.getfield 37, 3) := by decide +kernel
theorem dX3_endOfActs_12 : decode cX3_endOfActs 12 = .ok (.iload_n 1, 1) := by decide +kernel
theorem dX3_endOfActs_13 : decode cX3_endOfActs 13 = .ok (.iaload, 1) := by decide +kernel
theorem dX3_endOfActs_14 : decode cX3_endOfActs 14 = .ok (.goto 4, 3) := by decide +kernel
theorem dX3_endOfActs_17 : decode cX3_endOfActs 17 = .ok (.iconst 0, 1) := by decide +kernel
theorem dX3_endOfActs_18 : decode cX3_endOfActs 18 = .ok (.ireturn, 1) := by decide +kernel
theorem dX3_mayFollow_0 : decode cX3_mayFollow 0 = .ok (.aload_n 0, 1) := by decide +kernel
theorem dX3_mayFollow_1 : decode cX3_mayFollow 1 = .ok (.iload_n 1, 1) := by decide +kernel
theorem dX3_mayFollow_2 : decode cX3_mayFollow 2 = .ok (.invokevirtual 53, 3) := by decide +kernel
theorem dX3_mayFollow_5 : decode cX3_mayFollow 5 = .ok (.ifCond .eq 28, 3) := by decide +kernel
theorem dX3_mayFollow_8 : decode cX3_mayFollow 8 = .ok (.iload_n 2, 1) := by decide +kernel
end
section
theorem dX3_mayFollow_9 : decode cX3_mayFollow 9 = .ok (.iload_n 1, 1) := by decide +kernel
theorem dX3_mayFollow_10 : decode cX3_mayFollow 10 = .ok (.ishr, 1) := by decide +kernel
theorem dX3_mayFollow_11 : decode cX3_mayFollow 11 = .ok (.iconst 1, 1) := by decide +kernel
theorem dX3_mayFollow_12 : decode cX3_mayFollow 12 = .ok (.iand, 1) := by decide +kernel
theorem dX3_mayFollow_13 : decode cX3_mayFollow 13 = .ok (.ifCond .ne 20, 3) := by decide +kernel
theorem dX3_mayFollow_16 : decode cX3_mayFollow 16 = .ok (.aload_n 0, 1) := by decide +kernel
theorem dX3_mayFollow_17 : decode cX3_mayFollow 17 = .ok (.getfield 40, 3) := by decide +kernel
theorem dX3_mayFollow_20 : decode cX3_mayFollow 20 = .ok (.iload_n 1, 1) := by decide +kernel
theorem dX3_mayFollow_21 : decode cX3_mayFollow 21 = .ok (.iaload, 1) := by decide +kernel
theorem dX3_mayFollow_22 : decode cX3_mayFollow 22 = .ok (.iload_n 2, 1) := by decide +kernel
theorem dX3_mayFollow_23 : decode cX3_mayFollow 23 = .ok (.iconst (-1), 1) := by decide +kernel
theorem dX3_mayFollow_24 : decode cX3_mayFollow 24 = .ok (.ixor, 1) := by decide +kernel
theorem dX3_mayFollow_25 : decode cX3_mayFollow 25 = .ok (.iand, 1) := by decide +kernel
theorem dX3_mayFollow_26 : decode cX3_mayFollow 26 = .ok (.ifCond .ne 7, 3) := by decide +kernel
theorem dX3_mayFollow_29 : decode cX3_mayFollow 29 = .ok (.iconst 1, 1) := by decide +kernel
theorem dX3_mayFollow_30 : decode cX3_mayFollow 30 = .ok (.goto 4, 3) := by decide +kernel
theorem dX3_mayFollow_33 : decode cX3_mayFollow 33 = .ok (.iconst 0, 1) := by decide +kernel
theorem dX3_mayFollow_34 : decode cX3_mayFollow 34 = .ok (.ireturn, 1) := by decide +kernel
theorem dX4_init_0 : decode cX4_init 0 = .ok (.aload_n 0, 1) := by decide +kernel
theorem dX4_init_1 : decode cX4_init 1 = .ok (.invokespecial 3, 3) := by decide +kernel
theorem dX4_init_4 : decode cX4_init 4 = .ok (.aload_n 0, 1) := by decide +kernel
theorem dX4_init_5 : decode cX4_init 5 = .ok (.iconst 0, 1) := by decide +kernel
theorem dX4_init_6 : decode cX4_init 6 = .ok (.putfield 9, 3) := by decide +kernel
theorem dX4_init_9 : decode cX4_init 9 = .ok (.aload_n 0, 1) := by decide +kernel
theorem dX4_init_10 : decode cX4_init 10 = .ok (.aload_n 1, 1) := by decide +kernel
theorem dX4_init_11 : decode cX4_init 11 = .ok (.putfield 15, 3) := by decide +kernel
theorem dX4_init_14 : decode cX4_init 14 = .ok (.return_, 1) := by decide +kernel
theorem dX4_readInto_0 : decode cX4_readInto 0 = .ok (.aload_n 1, 1) := by decide +kernel
theorem dX4_readInto_1 : decode cX4_readInto 1 = .ok (.invokevirtual 19, 3) := by decide +kernel
theorem dX4_readInto_4 : decode cX4_readInto 4 = .ok (.aload_n 0, 1) := by decide +kernel
theorem dX4_readInto_5 : decode cX4_readInto 5 = .ok (.getfield 15, 3) := by decide +kernel
theorem dX4_readInto_8 : decode cX4_readInto 8 = .ok (.invokevirtual 24, 3) := by decide +kernel
theorem dX4_readInto_11 : decode cX4_readInto 11 = .ok (.aload_n 0, 1) := by decide +kernel
theorem dX4_readInto_12 : decode cX4_readInto 12 = .ok (.aload_n 1, 1) := by decide +kernel
theorem dX4_readInto_13 : decode cX4_readInto 13 = .ok (.invokevirtual 29, 3) := by decide +kernel
theorem dX4_readInto_16 : decode cX4_readInto 16 = .ok (.istore_n 2, 1) := by decide +kernel
theorem dX4_readInto_17 : decode cX4_readInto 17 = .ok (.iconst 0, 1) := by decide +kernel
theorem dX4_readInto_18 : decode cX4_readInto 18 = .ok (.istore_n 3, 1) := by decide +kernel
theorem dX4_readInto_19 : decode cX4_readInto 19 = .ok (.iload_n 3, 1) := by decide +kernel
theorem dX4_readInto_20 : decode cX4_readInto 20 = .ok (.bipush 6, 2) := by decide +kernel
theorem dX4_readInto_22 : decode cX4_readInto 22 = .ok (.if_icmp .gt 31, 3) := by decide +kernel
theorem dX4_readInto_25 : decode cX4_readInto 25 = .ok (.iload_n 2, 1) := by decide +kernel
theorem dX4_readInto_26 : decode cX4_readInto 26 = .ok (.ifCond .ne 27, 3) := by decide +kernel
theorem dX4_readInto_29 : decode cX4_readInto 29 = .ok (.aload_n 0, 1) := by decide +kernel
theorem dX4_readInto_30 : decode cX4_readInto 30 = .ok (.getfield 15, 3) := by decide +kernel
theorem dX4_readInto_33 : decode cX4_readInto 33 = .ok (.bipush 11, 2) := by decide +kernel
theorem dX4_readInto_35 : decode cX4_readInto 35 = .ok (.invokevirtual 33, 3) := by decide +kernel
theorem dX4_readInto_38 : decode cX4_readInto 38 = .ok (.ifCond .eq 15, 3) := by decide +kernel
theorem dX4_readInto_41 : decode cX4_readInto 41 = .ok (.aload_n 0, 1) := by decide +kernel
theorem dX4_readInto_42 : decode cX4_readInto 42 = .ok (.aload_n 1, 1) := by decide +kernel
theorem dX4_readInto_43 : decode cX4_readInto 43 = .ok (.invokevirtual 37, 3) := by decide +kernel
theorem dX4_readInto_46 : decode cX4_readInto 46 = .ok (.istore_n 2, 1) := by decide +kernel
theorem dX4_readInto_47 : decode cX4_readInto 47 = .ok (.iinc 3 1, 3) := by decide +kernel
theorem dX4_readInto_50 : decode cX4_readInto 50 = .ok (.goto (-31), 3) := by decide +kernel
theorem dX4_readInto_53 : decode cX4_readInto 53 = .ok (.iconst 0, 1) := by decide +kernel
theorem dX4_readInto_54 : decode cX4_readInto 54 = .ok (.istore_n 3, 1) := by decide +kernel
theorem dX4_readInto_55 : decode cX4_readInto 55 = .ok (.iload_n 3, 1) := by decide +kernel
theorem dX4_readInto_56 : decode cX4_readInto 56 = .ok (.bipush 10, 2) := by decide +kernel
theorem dX4_readInto_58 : decode cX4_readInto 58 = .ok (.if_icmp .gt 31, 3) := by decide +kernel
theorem dX4_readInto_61 : decode cX4_readInto 61 = .ok (.iload_n 2, 1) := by decide +kernel
theorem dX4_readInto_62 : decode cX4_readInto 62 = .ok (.ifCond .ne 27, 3) := by decide +kernel
theorem dX4_readInto_65 : decode cX4_readInto 65 = .ok (.aload_n 0, 1) := by decide +kernel
theorem dX4_readInto_66 : decode cX4_readInto 66 = .ok (.getfield 15, 3) := by decide +kernel
theorem dX4_readInto_69 : decode cX4_readInto 69 = .ok (.bipush 12, 2) := by decide +kernel
theorem dX4_readInto_71 : decode cX4_readInto 71 = .ok (.invokevirtual 33, 3) := by decide +kernel
theorem dX4_readInto_74 : decode cX4_readInto 74 = .ok (.ifCond .eq 15, 3) := by decide +kernel
theorem dX4_readInto_77 : decode cX4_readInto 77 = .ok (.aload_n 0, 1) := by decide +kernel
theorem dX4_readInto_78 : decode cX4_readInto 78 = .ok (.aload_n 1, 1) := by decide +kernel
theorem dX4_readInto_79 : decode cX4_readInto 79 = .ok (.invokevirtual 40, 3) := by decide +kernel
theorem dX4_readInto_82 : decode cX4_readInto 82 = .ok (.istore_n 2, 1) := by decide +kernel
theorem dX4_readInto_83 : decode cX4_readInto 83 = .ok (.iinc 3 1, 3) := by decide +kernel
theorem dX4_readInto_86 : decode cX4_readInto 86 = .ok (.goto (-31), 3) := by decide +kernel
theorem dX4_readInto_89 : decode cX4_readInto 89 = .ok (.iload_n 2, 1) := by decide +kernel
theorem dX4_readInto_90 : decode cX4_readInto 90 = .ok (.ifCond .ne 17, 3) := by decide +kernel
theorem dX4_readInto_93 : decode cX4_readInto 93 = .ok (.aload_n 0, 1) := by decide +kernel
theorem dX4_readInto_94 : decode cX4_readInto 94 = .ok (.getfield 15, 3) := by decide +kernel
theorem dX4_readInto_97 : decode cX4_readInto 97 = .ok (.invokevirtual 43, 3) := by decide +kernel
theorem dX4_readInto_100 : decode cX4_readInto 100 = .ok (.ifCond .ne 7, 3) := by decide +kernel
theorem dX4_readInto_103 : decode cX4_readInto 103 = .ok (.iconst 1, 1) := by decide +kernel
theorem dX4_readInto_104 : decode cX4_readInto 104 = .ok (.goto 4, 3) := by decide +kernel
theorem dX4_readInto_107 : decode cX4_readInto 107 = .ok (.iload_n 2, 1) := by decide +kernel
theorem dX4_readInto_108 : decode cX4_readInto 108 = .ok (.ireturn, 1) := by decide +kernel
theorem dX4_takePanel_0 : decode cX4_takePanel 0 = .ok (.aload_n 0, 1) := by decide +kernel
theorem dX4_takePanel_1 : decode cX4_takePanel 1 = .ok (.getfield 15, 3) := by decide +kernel
theorem dX4_takePanel_4 : decode cX4_takePanel 4 = .ok (.bipush 10, 2) := by decide +kernel
theorem dX4_takePanel_6 : decode cX4_takePanel 6 = .ok (.invokevirtual 33, 3) := by decide +kernel
theorem dX4_takePanel_9 : decode cX4_takePanel 9 = .ok (.ifCond .ne 5, 3) := by decide +kernel
theorem dX4_takePanel_12 : decode cX4_takePanel 12 = .ok (.iconst 1, 1) := by decide +kernel
theorem dX4_takePanel_13 : decode cX4_takePanel 13 = .ok (.ireturn, 1) := by decide +kernel
theorem dX4_takePanel_14 : decode cX4_takePanel 14 = .ok (.aload_n 0, 1) := by decide +kernel
theorem dX4_takePanel_15 : decode cX4_takePanel 15 = .ok (.getfield 15, 3) := by decide +kernel
theorem dX4_takePanel_18 : decode cX4_takePanel 18 = .ok (.invokevirtual 47, 3) := by decide +kernel
theorem dX4_takePanel_21 : decode cX4_takePanel 21 = .ok (.aload_n 0, 1) := by decide +kernel
theorem dX4_takePanel_22 : decode cX4_takePanel 22 = .ok (.iconst 4, 1) := by decide +kernel
theorem dX4_takePanel_23 : decode cX4_takePanel 23 = .ok (.bipush 12, 2) := by decide +kernel
theorem dX4_takePanel_25 : decode cX4_takePanel 25 = .ok (.invokevirtual 50, 3) := by decide +kernel
theorem dX4_takePanel_28 : decode cX4_takePanel 28 = .ok (.istore_n 2, 1) := by decide +kernel
theorem dX4_takePanel_29 : decode cX4_takePanel 29 = .ok (.iload_n 2, 1) := by decide +kernel
theorem dX4_takePanel_30 : decode cX4_takePanel 30 = .ok (.ifCond .eq 5, 3) := by decide +kernel
theorem dX4_takePanel_33 : decode cX4_takePanel 33 = .ok (.iload_n 2, 1) := by decide +kernel
theorem dX4_takePanel_34 : decode cX4_takePanel 34 = .ok (.ireturn, 1) := by decide +kernel
theorem dX4_takePanel_35 : decode cX4_takePanel 35 = .ok (.aload_n 1, 1) := by decide +kernel
theorem dX4_takePanel_36 : decode cX4_takePanel 36 = .ok (.aload_n 0, 1) := by decide +kernel
theorem dX4_takePanel_37 : decode cX4_takePanel 37 = .ok (.getfield 9, 3) := by decide +kernel
theorem dX4_takePanel_40 : decode cX4_takePanel 40 = .ok (.putfield 54, 3) := by decide +kernel
theorem dX4_takePanel_43 : decode cX4_takePanel 43 = .ok (.aload_n 0, 1) := by decide +kernel
theorem dX4_takePanel_44 : decode cX4_takePanel 44 = .ok (.invokevirtual 57, 3) := by decide +kernel
theorem dX4_takePanel_47 : decode cX4_takePanel 47 = .ok (.ireturn, 1) := by decide +kernel
theorem dX4_takeSeam_0 : decode cX4_takeSeam 0 = .ok (.aload_n 1, 1) := by decide +kernel
theorem dX4_takeSeam_1 : decode cX4_takeSeam 1 = .ok (.getfield 61, 3) := by decide +kernel
theorem dX4_takeSeam_4 : decode cX4_takeSeam 4 = .ok (.bipush 6, 2) := by decide +kernel
theorem dX4_takeSeam_6 : decode cX4_takeSeam 6 = .ok (.if_icmp .lt 5, 3) := by decide +kernel
theorem dX4_takeSeam_9 : decode cX4_takeSeam 9 = .ok (.iconst 3, 1) := by decide +kernel
theorem dX4_takeSeam_10 : decode cX4_takeSeam 10 = .ok (.ireturn, 1) := by decide +kernel
theorem dX4_takeSeam_11 : decode cX4_takeSeam 11 = .ok (.aload_n 0, 1) := by decide +kernel
theorem dX4_takeSeam_12 : decode cX4_takeSeam 12 = .ok (.getfield 15, 3) := by decide +kernel
theorem dX4_takeSeam_15 : decode cX4_takeSeam 15 = .ok (.invokevirtual 47, 3) := by decide +kernel
theorem dX4_takeSeam_18 : decode cX4_takeSeam 18 = .ok (.iconst 0, 1) := by decide +kernel
theorem dX4_takeSeam_19 : decode cX4_takeSeam 19 = .ok (.istore_n 2, 1) := by decide +kernel
theorem dX4_takeSeam_20 : decode cX4_takeSeam 20 = .ok (.aload_n 0, 1) := by decide +kernel
theorem dX4_takeSeam_21 : decode cX4_takeSeam 21 = .ok (.getfield 15, 3) := by decide +kernel
theorem dX4_takeSeam_24 : decode cX4_takeSeam 24 = .ok (.invokevirtual 64, 3) := by decide +kernel
theorem dX4_takeSeam_27 : decode cX4_takeSeam 27 = .ok (.istore_n 3, 1) := by decide +kernel
theorem dX4_takeSeam_28 : decode cX4_takeSeam 28 = .ok (.iconst 0, 1) := by decide +kernel
theorem dX4_takeSeam_29 : decode cX4_takeSeam 29 = .ok (.istore 4, 2) := by decide +kernel
theorem dX4_takeSeam_31 : decode cX4_takeSeam 31 = .ok (.iload 4, 2) := by decide +kernel
theorem dX4_takeSeam_33 : decode cX4_takeSeam 33 = .ok (.bipush 40, 2) := by decide +kernel
theorem dX4_takeSeam_35 : decode cX4_takeSeam 35 = .ok (.if_icmp .gt 33, 3) := by decide +kernel
theorem dX4_takeSeam_38 : decode cX4_takeSeam 38 = .ok (.iload_n 2, 1) := by decide +kernel
theorem dX4_takeSeam_39 : decode cX4_takeSeam 39 = .ok (.ifCond .ne 29, 3) := by decide +kernel
theorem dX4_takeSeam_42 : decode cX4_takeSeam 42 = .ok (.iload_n 3, 1) := by decide +kernel
theorem dX4_takeSeam_43 : decode cX4_takeSeam 43 = .ok (.iconst (-1), 1) := by decide +kernel
theorem dX4_takeSeam_44 : decode cX4_takeSeam 44 = .ok (.if_icmp .eq 24, 3) := by decide +kernel
theorem dX4_takeSeam_47 : decode cX4_takeSeam 47 = .ok (.aload_n 0, 1) := by decide +kernel
theorem dX4_takeSeam_48 : decode cX4_takeSeam 48 = .ok (.aload_n 1, 1) := by decide +kernel
theorem dX4_takeSeam_49 : decode cX4_takeSeam 49 = .ok (.iload_n 3, 1) := by decide +kernel
theorem dX4_takeSeam_50 : decode cX4_takeSeam 50 = .ok (.invokevirtual 67, 3) := by decide +kernel
theorem dX4_takeSeam_53 : decode cX4_takeSeam 53 = .ok (.istore_n 2, 1) := by decide +kernel
theorem dX4_takeSeam_54 : decode cX4_takeSeam 54 = .ok (.aload_n 0, 1) := by decide +kernel
theorem dX4_takeSeam_55 : decode cX4_takeSeam 55 = .ok (.getfield 15, 3) := by decide +kernel
theorem dX4_takeSeam_58 : decode cX4_takeSeam 58 = .ok (.invokevirtual 64, 3) := by decide +kernel
theorem dX4_takeSeam_61 : decode cX4_takeSeam 61 = .ok (.istore_n 3, 1) := by decide +kernel
theorem dX4_takeSeam_62 : decode cX4_takeSeam 62 = .ok (.iinc 4 1, 3) := by decide +kernel
theorem dX4_takeSeam_65 : decode cX4_takeSeam 65 = .ok (.goto (-34), 3) := by decide +kernel
theorem dX4_takeSeam_68 : decode cX4_takeSeam 68 = .ok (.aload_n 1, 1) := by decide +kernel
theorem dX4_takeSeam_69 : decode cX4_takeSeam 69 = .ok (.invokevirtual 71, 3) := by decide +kernel
theorem dX4_takeSeam_72 : decode cX4_takeSeam 72 = .ok (.iload_n 2, 1) := by decide +kernel
theorem dX4_takeSeam_73 : decode cX4_takeSeam 73 = .ok (.ifCond .ne 10, 3) := by decide +kernel
theorem dX4_takeSeam_76 : decode cX4_takeSeam 76 = .ok (.aload_n 0, 1) := by decide +kernel
theorem dX4_takeSeam_77 : decode cX4_takeSeam 77 = .ok (.invokevirtual 57, 3) := by decide +kernel
theorem dX4_takeSeam_80 : decode cX4_takeSeam 80 = .ok (.goto 4, 3) := by decide +kernel
theorem dX4_takeSeam_83 : decode cX4_takeSeam 83 = .ok (.iload_n 2, 1) := by decide +kernel
theorem dX4_takeSeam_84 : decode cX4_takeSeam 84 = .ok (.ireturn, 1) := by decide +kernel
theorem dX4_takeAct_0 : decode cX4_takeAct 0 = .ok (.aload_n 1, 1) := by decide +kernel
theorem dX4_takeAct_1 : decode cX4_takeAct 1 = .ok (.getfield 74, 3) := by decide +kernel
theorem dX4_takeAct_4 : decode cX4_takeAct 4 = .ok (.bipush 40, 2) := by decide +kernel
theorem dX4_takeAct_6 : decode cX4_takeAct 6 = .ok (.if_icmp .lt 5, 3) := by decide +kernel
theorem dX4_takeAct_9 : decode cX4_takeAct 9 = .ok (.iconst 3, 1) := by decide +kernel
theorem dX4_takeAct_10 : decode cX4_takeAct 10 = .ok (.ireturn, 1) := by decide +kernel
theorem dX4_takeAct_11 : decode cX4_takeAct 11 = .ok (.aload_n 0, 1) := by decide +kernel
theorem dX4_takeAct_12 : decode cX4_takeAct 12 = .ok (.getfield 15, 3) := by decide +kernel
theorem dX4_takeAct_15 : decode cX4_takeAct 15 = .ok (.invokevirtual 47, 3) := by decide +kernel
theorem dX4_takeAct_18 : decode cX4_takeAct 18 = .ok (.iload_n 2, 1) := by decide +kernel
theorem dX4_takeAct_19 : decode cX4_takeAct 19 = .ok (.bipush 7, 2) := by decide +kernel
theorem dX4_takeAct_21 : decode cX4_takeAct 21 = .ok (.if_icmp .ne 13, 3) := by decide +kernel
theorem dX4_takeAct_24 : decode cX4_takeAct 24 = .ok (.aload_n 0, 1) := by decide +kernel
theorem dX4_takeAct_25 : decode cX4_takeAct 25 = .ok (.iconst 1, 1) := by decide +kernel
theorem dX4_takeAct_26 : decode cX4_takeAct 26 = .ok (.bipush 30, 2) := by decide +kernel
theorem dX4_takeAct_28 : decode cX4_takeAct 28 = .ok (.invokevirtual 50, 3) := by decide +kernel
theorem dX4_takeAct_31 : decode cX4_takeAct 31 = .ok (.goto 14, 3) := by decide +kernel
theorem dX4_takeAct_34 : decode cX4_takeAct 34 = .ok (.aload_n 0, 1) := by decide +kernel
theorem dX4_takeAct_35 : decode cX4_takeAct 35 = .ok (.iconst 0, 1) := by decide +kernel
theorem dX4_takeAct_36 : decode cX4_takeAct 36 = .ok (.aload_n 1, 1) := by decide +kernel
theorem dX4_takeAct_37 : decode cX4_takeAct 37 = .ok (.getfield 54, 3) := by decide +kernel
theorem dX4_takeAct_40 : decode cX4_takeAct 40 = .ok (.iconst 1, 1) := by decide +kernel
theorem dX4_takeAct_41 : decode cX4_takeAct 41 = .ok (.isub, 1) := by decide +kernel
theorem dX4_takeAct_42 : decode cX4_takeAct 42 = .ok (.invokevirtual 50, 3) := by decide +kernel
theorem dX4_takeAct_45 : decode cX4_takeAct 45 = .ok (.istore_n 3, 1) := by decide +kernel
theorem dX4_takeAct_46 : decode cX4_takeAct 46 = .ok (.aload_n 0, 1) := by decide +kernel
theorem dX4_takeAct_47 : decode cX4_takeAct 47 = .ok (.getfield 9, 3) := by decide +kernel
theorem dX4_takeAct_50 : decode cX4_takeAct 50 = .ok (.istore 4, 2) := by decide +kernel
theorem dX4_takeAct_52 : decode cX4_takeAct 52 = .ok (.iconst 0, 1) := by decide +kernel
theorem dX4_takeAct_53 : decode cX4_takeAct 53 = .ok (.istore 5, 2) := by decide +kernel
theorem dX4_takeAct_55 : decode cX4_takeAct 55 = .ok (.iload_n 3, 1) := by decide +kernel
theorem dX4_takeAct_56 : decode cX4_takeAct 56 = .ok (.ifCond .ne 23, 3) := by decide +kernel
theorem dX4_takeAct_59 : decode cX4_takeAct 59 = .ok (.iload_n 2, 1) := by decide +kernel
theorem dX4_takeAct_60 : decode cX4_takeAct 60 = .ok (.bipush 6, 2) := by decide +kernel
theorem dX4_takeAct_62 : decode cX4_takeAct 62 = .ok (.if_icmp .gt 17, 3) := by decide +kernel
theorem dX4_takeAct_65 : decode cX4_takeAct 65 = .ok (.aload_n 0, 1) := by decide +kernel
theorem dX4_takeAct_66 : decode cX4_takeAct 66 = .ok (.iconst 1, 1) := by decide +kernel
theorem dX4_takeAct_67 : decode cX4_takeAct 67 = .ok (.bipush 20, 2) := by decide +kernel
theorem dX4_takeAct_69 : decode cX4_takeAct 69 = .ok (.invokevirtual 50, 3) := by decide +kernel
theorem dX4_takeAct_72 : decode cX4_takeAct 72 = .ok (.istore_n 3, 1) := by decide +kernel
theorem dX4_takeAct_73 : decode cX4_takeAct 73 = .ok (.aload_n 0, 1) := by decide +kernel
theorem dX4_takeAct_74 : decode cX4_takeAct 74 = .ok (.getfield 9, 3) := by decide +kernel
theorem dX4_takeAct_77 : decode cX4_takeAct 77 = .ok (.istore 5, 2) := by decide +kernel
theorem dX4_takeAct_79 : decode cX4_takeAct 79 = .ok (.iload_n 3, 1) := by decide +kernel
theorem dX4_takeAct_80 : decode cX4_takeAct 80 = .ok (.ifCond .ne 12, 3) := by decide +kernel
theorem dX4_takeAct_83 : decode cX4_takeAct 83 = .ok (.aload_n 1, 1) := by decide +kernel
theorem dX4_takeAct_84 : decode cX4_takeAct 84 = .ok (.iload_n 2, 1) := by decide +kernel
theorem dX4_takeAct_85 : decode cX4_takeAct 85 = .ok (.iload 4, 2) := by decide +kernel
theorem dX4_takeAct_87 : decode cX4_takeAct 87 = .ok (.iload 5, 2) := by decide +kernel
theorem dX4_takeAct_89 : decode cX4_takeAct 89 = .ok (.invokevirtual 77, 3) := by decide +kernel
theorem dX4_takeAct_92 : decode cX4_takeAct 92 = .ok (.iload_n 3, 1) := by decide +kernel
theorem dX4_takeAct_93 : decode cX4_takeAct 93 = .ok (.ireturn, 1) := by decide +kernel
theorem dX4_takeBefore_0 : decode cX4_takeBefore 0 = .ok (.aload_n 1, 1) := by decide +kernel
theorem dX4_takeBefore_1 : decode cX4_takeBefore 1 = .ok (.getfield 81, 3) := by decide +kernel
theorem dX4_takeBefore_4 : decode cX4_takeBefore 4 = .ok (.bipush 10, 2) := by decide +kernel
theorem dX4_takeBefore_6 : decode cX4_takeBefore 6 = .ok (.if_icmp .lt 5, 3) := by decide +kernel
theorem dX4_takeBefore_9 : decode cX4_takeBefore 9 = .ok (.iconst 3, 1) := by decide +kernel
theorem dX4_takeBefore_10 : decode cX4_takeBefore 10 = .ok (.ireturn, 1) := by decide +kernel
theorem dX4_takeBefore_11 : decode cX4_takeBefore 11 = .ok (.aload_n 0, 1) := by decide +kernel
theorem dX4_takeBefore_12 : decode cX4_takeBefore 12 = .ok (.getfield 15, 3) := by decide +kernel
theorem dX4_takeBefore_15 : decode cX4_takeBefore 15 = .ok (.invokevirtual 47, 3) := by decide +kernel
theorem dX4_takeBefore_18 : decode cX4_takeBefore 18 = .ok (.aload_n 0, 1) := by decide +kernel
theorem dX4_takeBefore_19 : decode cX4_takeBefore 19 = .ok (.iconst 0, 1) := by decide +kernel
theorem dX4_takeBefore_20 : decode cX4_takeBefore 20 = .ok (.aload_n 1, 1) := by decide +kernel
theorem dX4_takeBefore_21 : decode cX4_takeBefore 21 = .ok (.getfield 61, 3) := by decide +kernel
theorem dX4_takeBefore_24 : decode cX4_takeBefore 24 = .ok (.iconst 1, 1) := by decide +kernel
theorem dX4_takeBefore_25 : decode cX4_takeBefore 25 = .ok (.isub, 1) := by decide +kernel
theorem dX4_takeBefore_26 : decode cX4_takeBefore 26 = .ok (.invokevirtual 50, 3) := by decide +kernel
theorem dX4_takeBefore_29 : decode cX4_takeBefore 29 = .ok (.istore_n 2, 1) := by decide +kernel
theorem dX4_takeBefore_30 : decode cX4_takeBefore 30 = .ok (.iload_n 2, 1) := by decide +kernel
theorem dX4_takeBefore_31 : decode cX4_takeBefore 31 = .ok (.ifCond .eq 5, 3) := by decide +kernel
theorem dX4_takeBefore_34 : decode cX4_takeBefore 34 = .ok (.iload_n 2, 1) := by decide +kernel
theorem dX4_takeBefore_35 : decode cX4_takeBefore 35 = .ok (.ireturn, 1) := by decide +kernel
theorem dX4_takeBefore_36 : decode cX4_takeBefore 36 = .ok (.aload_n 0, 1) := by decide +kernel
theorem dX4_takeBefore_37 : decode cX4_takeBefore 37 = .ok (.getfield 9, 3) := by decide +kernel
theorem dX4_takeBefore_40 : decode cX4_takeBefore 40 = .ok (.istore_n 3, 1) := by decide +kernel
theorem dX4_takeBefore_41 : decode cX4_takeBefore 41 = .ok (.aload_n 0, 1) := by decide +kernel
theorem dX4_takeBefore_42 : decode cX4_takeBefore 42 = .ok (.getfield 15, 3) := by decide +kernel
theorem dX4_takeBefore_45 : decode cX4_takeBefore 45 = .ok (.invokevirtual 84, 3) := by decide +kernel
theorem dX4_takeBefore_48 : decode cX4_takeBefore 48 = .ok (.ifCond .eq 16, 3) := by decide +kernel
theorem dX4_takeBefore_51 : decode cX4_takeBefore 51 = .ok (.aload_n 0, 1) := by decide +kernel
theorem dX4_takeBefore_52 : decode cX4_takeBefore 52 = .ok (.getfield 15, 3) := by decide +kernel
theorem dX4_takeBefore_55 : decode cX4_takeBefore 55 = .ok (.invokevirtual 87, 3) := by decide +kernel
theorem dX4_takeBefore_58 : decode cX4_takeBefore 58 = .ok (.iload_n 3, 1) := by decide +kernel
theorem dX4_takeBefore_59 : decode cX4_takeBefore 59 = .ok (.if_icmp .ne 5, 3) := by decide +kernel
theorem dX4_takeBefore_62 : decode cX4_takeBefore 62 = .ok (.iconst 2, 1) := by decide +kernel
theorem dX4_takeBefore_63 : decode cX4_takeBefore 63 = .ok (.ireturn, 1) := by decide +kernel
theorem dX4_takeBefore_64 : decode cX4_takeBefore 64 = .ok (.aload_n 0, 1) := by decide +kernel
theorem dX4_takeBefore_65 : decode cX4_takeBefore 65 = .ok (.iconst 0, 1) := by decide +kernel
theorem dX4_takeBefore_66 : decode cX4_takeBefore 66 = .ok (.aload_n 1, 1) := by decide +kernel
theorem dX4_takeBefore_67 : decode cX4_takeBefore 67 = .ok (.getfield 61, 3) := by decide +kernel
theorem dX4_takeBefore_70 : decode cX4_takeBefore 70 = .ok (.iconst 1, 1) := by decide +kernel
theorem dX4_takeBefore_71 : decode cX4_takeBefore 71 = .ok (.isub, 1) := by decide +kernel
theorem dX4_takeBefore_72 : decode cX4_takeBefore 72 = .ok (.invokevirtual 50, 3) := by decide +kernel
theorem dX4_takeBefore_75 : decode cX4_takeBefore 75 = .ok (.istore_n 2, 1) := by decide +kernel
theorem dX4_takeBefore_76 : decode cX4_takeBefore 76 = .ok (.iload_n 2, 1) := by decide +kernel
theorem dX4_takeBefore_77 : decode cX4_takeBefore 77 = .ok (.ifCond .eq 5, 3) := by decide +kernel
theorem dX4_takeBefore_80 : decode cX4_takeBefore 80 = .ok (.iload_n 2, 1) := by decide +kernel
theorem dX4_takeBefore_81 : decode cX4_takeBefore 81 = .ok (.ireturn, 1) := by decide +kernel
theorem dX4_takeBefore_82 : decode cX4_takeBefore 82 = .ok (.aload_n 1, 1) := by decide +kernel
theorem dX4_takeBefore_83 : decode cX4_takeBefore 83 = .ok (.iload_n 3, 1) := by decide +kernel
theorem dX4_takeBefore_84 : decode cX4_takeBefore 84 = .ok (.aload_n 0, 1) := by decide +kernel
theorem dX4_takeBefore_85 : decode cX4_takeBefore 85 = .ok (.getfield 9, 3) := by decide +kernel
theorem dX4_takeBefore_88 : decode cX4_takeBefore 88 = .ok (.invokevirtual 90, 3) := by decide +kernel
theorem dX4_takeBefore_91 : decode cX4_takeBefore 91 = .ok (.aload_n 0, 1) := by decide +kernel
theorem dX4_takeBefore_92 : decode cX4_takeBefore 92 = .ok (.invokevirtual 57, 3) := by decide +kernel
theorem dX4_takeBefore_95 : decode cX4_takeBefore 95 = .ok (.ireturn, 1) := by decide +kernel
theorem dX4_takeNumber_0 : decode cX4_takeNumber 0 = .ok (.aload_n 0, 1) := by decide +kernel
theorem dX4_takeNumber_1 : decode cX4_takeNumber 1 = .ok (.getfield 15, 3) := by decide +kernel
theorem dX4_takeNumber_4 : decode cX4_takeNumber 4 = .ok (.invokevirtual 84, 3) := by decide +kernel
theorem dX4_takeNumber_7 : decode cX4_takeNumber 7 = .ok (.ifCond .ne 5, 3) := by decide +kernel
theorem dX4_takeNumber_10 : decode cX4_takeNumber 10 = .ok (.iconst 1, 1) := by decide +kernel
theorem dX4_takeNumber_11 : decode cX4_takeNumber 11 = .ok (.ireturn, 1) := by decide +kernel
theorem dX4_takeNumber_12 : decode cX4_takeNumber 12 = .ok (.aload_n 0, 1) := by decide +kernel
theorem dX4_takeNumber_13 : decode cX4_takeNumber 13 = .ok (.aload_n 0, 1) := by decide +kernel
theorem dX4_takeNumber_14 : decode cX4_takeNumber 14 = .ok (.getfield 15, 3) := by decide +kernel
theorem dX4_takeNumber_17 : decode cX4_takeNumber 17 = .ok (.invokevirtual 87, 3) := by decide +kernel
theorem dX4_takeNumber_20 : decode cX4_takeNumber 20 = .ok (.putfield 9, 3) := by decide +kernel
theorem dX4_takeNumber_23 : decode cX4_takeNumber 23 = .ok (.aload_n 0, 1) := by decide +kernel
theorem dX4_takeNumber_24 : decode cX4_takeNumber 24 = .ok (.getfield 9, 3) := by decide +kernel
theorem dX4_takeNumber_27 : decode cX4_takeNumber 27 = .ok (.iload_n 1, 1) := by decide +kernel
theorem dX4_takeNumber_28 : decode cX4_takeNumber 28 = .ok (.if_icmp .lt 11, 3) := by decide +kernel
theorem dX4_takeNumber_31 : decode cX4_takeNumber 31 = .ok (.aload_n 0, 1) := by decide +kernel
theorem dX4_takeNumber_32 : decode cX4_takeNumber 32 = .ok (.getfield 9, 3) := by decide +kernel
theorem dX4_takeNumber_35 : decode cX4_takeNumber 35 = .ok (.iload_n 2, 1) := by decide +kernel
theorem dX4_takeNumber_36 : decode cX4_takeNumber 36 = .ok (.if_icmp .le 5, 3) := by decide +kernel
theorem dX4_takeNumber_39 : decode cX4_takeNumber 39 = .ok (.iconst 2, 1) := by decide +kernel
theorem dX4_takeNumber_40 : decode cX4_takeNumber 40 = .ok (.ireturn, 1) := by decide +kernel
theorem dX4_takeNumber_41 : decode cX4_takeNumber 41 = .ok (.aload_n 0, 1) := by decide +kernel
theorem dX4_takeNumber_42 : decode cX4_takeNumber 42 = .ok (.getfield 15, 3) := by decide +kernel
theorem dX4_takeNumber_45 : decode cX4_takeNumber 45 = .ok (.invokevirtual 47, 3) := by decide +kernel
theorem dX4_takeNumber_48 : decode cX4_takeNumber 48 = .ok (.iconst 0, 1) := by decide +kernel
theorem dX4_takeNumber_49 : decode cX4_takeNumber 49 = .ok (.ireturn, 1) := by decide +kernel
theorem dX4_takeSign_0 : decode cX4_takeSign 0 = .ok (.aload_n 0, 1) := by decide +kernel
theorem dX4_takeSign_1 : decode cX4_takeSign 1 = .ok (.getfield 15, 3) := by decide +kernel
theorem dX4_takeSign_4 : decode cX4_takeSign 4 = .ok (.invokevirtual 94, 3) := by decide +kernel
theorem dX4_takeSign_7 : decode cX4_takeSign 7 = .ok (.ifCond .ne 5, 3) := by decide +kernel
theorem dX4_takeSign_10 : decode cX4_takeSign 10 = .ok (.iconst 1, 1) := by decide +kernel
theorem dX4_takeSign_11 : decode cX4_takeSign 11 = .ok (.ireturn, 1) := by decide +kernel
theorem dX4_takeSign_12 : decode cX4_takeSign 12 = .ok (.aload_n 0, 1) := by decide +kernel
theorem dX4_takeSign_13 : decode cX4_takeSign 13 = .ok (.getfield 15, 3) := by decide +kernel
theorem dX4_takeSign_16 : decode cX4_takeSign 16 = .ok (.invokevirtual 47, 3) := by decide +kernel
theorem dX4_takeSign_19 : decode cX4_takeSign 19 = .ok (.iconst 0, 1) := by decide +kernel
theorem dX4_takeSign_20 : decode cX4_takeSign 20 = .ok (.ireturn, 1) := by decide +kernel
theorem dX5_init_0 : decode cX5_init 0 = .ok (.aload_n 0, 1) := by decide +kernel
theorem dX5_init_1 : decode cX5_init 1 = .ok (.invokespecial 3, 3) := by decide +kernel
theorem dX5_init_4 : decode cX5_init 4 = .ok (.aload_n 0, 1) := by decide +kernel
theorem dX5_init_5 : decode cX5_init 5 = .ok (.bipush 7, 2) := by decide +kernel
theorem dX5_init_7 : decode cX5_init 7 = .ok (.anewarray 9, 3) := by decide +kernel
theorem dX5_init_10 : decode cX5_init 10 = .ok (.putfield 11, 3) := by decide +kernel
theorem dX5_init_13 : decode cX5_init 13 = .ok (.aload_n 0, 1) := by decide +kernel
theorem dX5_init_14 : decode cX5_init 14 = .ok (.bipush 6, 2) := by decide +kernel
theorem dX5_init_16 : decode cX5_init 16 = .ok (.newarray .int, 2) := by decide +kernel
theorem dX5_init_18 : decode cX5_init 18 = .ok (.putfield 17, 3) := by decide +kernel
theorem dX5_init_21 : decode cX5_init 21 = .ok (.aload_n 0, 1) := by decide +kernel
theorem dX5_init_22 : decode cX5_init 22 = .ok (.bipush 6, 2) := by decide +kernel
theorem dX5_init_24 : decode cX5_init 24 = .ok (.newarray .int, 2) := by decide +kernel
theorem dX5_init_26 : decode cX5_init 26 = .ok (.putfield 21, 3) := by decide +kernel
theorem dX5_init_29 : decode cX5_init 29 = .ok (.aload_n 0, 1) := by decide +kernel
theorem dX5_init_30 : decode cX5_init 30 = .ok (.bipush 64, 2) := by decide +kernel
theorem dX5_init_32 : decode cX5_init 32 = .ok (.newarray .int, 2) := by decide +kernel
theorem dX5_init_34 : decode cX5_init 34 = .ok (.putfield 24, 3) := by decide +kernel
theorem dX5_init_37 : decode cX5_init 37 = .ok (.aload_n 0, 1) := by decide +kernel
theorem dX5_init_38 : decode cX5_init 38 = .ok (.iconst 0, 1) := by decide +kernel
theorem dX5_init_39 : decode cX5_init 39 = .ok (.putfield 27, 3) := by decide +kernel
theorem dX5_init_42 : decode cX5_init 42 = .ok (.aload_n 0, 1) := by decide +kernel
theorem dX5_init_43 : decode cX5_init 43 = .ok (.iconst 0, 1) := by decide +kernel
theorem dX5_init_44 : decode cX5_init 44 = .ok (.putfield 31, 3) := by decide +kernel
theorem dX5_init_47 : decode cX5_init 47 = .ok (.aload_n 0, 1) := by decide +kernel
theorem dX5_init_48 : decode cX5_init 48 = .ok (.iconst 0, 1) := by decide +kernel
theorem dX5_init_49 : decode cX5_init 49 = .ok (.putfield 34, 3) := by decide +kernel
theorem dX5_init_52 : decode cX5_init 52 = .ok (.iconst 0, 1) := by decide +kernel
theorem dX5_init_53 : decode cX5_init 53 = .ok (.istore_n 1, 1) := by decide +kernel
theorem dX5_init_54 : decode cX5_init 54 = .ok (.iload_n 1, 1) := by decide +kernel
theorem dX5_init_55 : decode cX5_init 55 = .ok (.bipush 6, 2) := by decide +kernel
theorem dX5_init_57 : decode cX5_init 57 = .ok (.if_icmp .gt 22, 3) := by decide +kernel
theorem dX5_init_60 : decode cX5_init 60 = .ok (.aload_n 0, 1) := by decide +kernel
theorem dX5_init_61 : decode cX5_init 61 = .ok (.getfield 11, 3) := by decide +kernel
theorem dX5_init_64 : decode cX5_init 64 = .ok (.iload_n 1, 1) := by decide +kernel
theorem dX5_init_65 : decode cX5_init 65 = .ok (.new 9, 3) := by decide +kernel
theorem dX5_init_68 : decode cX5_init 68 = .ok (.dup, 1) := by decide +kernel
theorem dX5_init_69 : decode cX5_init 69 = .ok (.invokespecial 38, 3) := by decide +kernel
theorem dX5_init_72 : decode cX5_init 72 = .ok (.aastore, 1) := by decide +kernel
theorem dX5_init_73 : decode cX5_init 73 = .ok (.iinc 1 1, 3) := by decide +kernel
theorem dX5_init_76 : decode cX5_init 76 = .ok (.goto (-22), 3) := by decide +kernel
theorem dX5_init_79 : decode cX5_init 79 = .ok (.return_, 1) := by decide +kernel
theorem dX5_forget_0 : decode cX5_forget 0 = .ok (.aload_n 0, 1) := by decide +kernel
theorem dX5_forget_1 : decode cX5_forget 1 = .ok (.iconst 0, 1) := by decide +kernel
theorem dX5_forget_2 : decode cX5_forget 2 = .ok (.putfield 27, 3) := by decide +kernel
theorem dX5_forget_5 : decode cX5_forget 5 = .ok (.return_, 1) := by decide +kernel
theorem dX5_look_0 : decode cX5_look 0 = .ok (.aload_n 0, 1) := by decide +kernel
theorem dX5_look_1 : decode cX5_look 1 = .ok (.getfield 27, 3) := by decide +kernel
theorem dX5_look_4 : decode cX5_look 4 = .ok (.ifCond .eq 4, 3) := by decide +kernel
theorem dX5_look_7 : decode cX5_look 7 = .ok (.return_, 1) := by decide +kernel
theorem dX5_look_8 : decode cX5_look 8 = .ok (.aload_n 0, 1) := by decide +kernel
theorem dX5_look_9 : decode cX5_look 9 = .ok (.iconst 1, 1) := by decide +kernel
theorem dX5_look_10 : decode cX5_look 10 = .ok (.putfield 27, 3) := by decide +kernel
theorem dX5_look_13 : decode cX5_look 13 = .ok (.aload_n 0, 1) := by decide +kernel
theorem dX5_look_14 : decode cX5_look 14 = .ok (.iconst 0, 1) := by decide +kernel
theorem dX5_look_15 : decode cX5_look 15 = .ok (.putfield 31, 3) := by decide +kernel
theorem dX5_look_18 : decode cX5_look 18 = .ok (.aload_n 0, 1) := by decide +kernel
theorem dX5_look_19 : decode cX5_look 19 = .ok (.getfield 11, 3) := by decide +kernel
theorem dX5_look_22 : decode cX5_look 22 = .ok (.iconst 0, 1) := by decide +kernel
theorem dX5_look_23 : decode cX5_look 23 = .ok (.aaload, 1) := by decide +kernel
theorem dX5_look_24 : decode cX5_look 24 = .ok (.aload_n 1, 1) := by decide +kernel
theorem dX5_look_25 : decode cX5_look 25 = .ok (.getfield 39, 3) := by decide +kernel
theorem dX5_look_28 : decode cX5_look 28 = .ok (.aload_n 2, 1) := by decide +kernel
theorem dX5_look_29 : decode cX5_look 29 = .ok (.invokevirtual 44, 3) := by decide +kernel
theorem dX5_look_32 : decode cX5_look 32 = .ok (.aload_n 0, 1) := by decide +kernel
theorem dX5_look_33 : decode cX5_look 33 = .ok (.aload_n 1, 1) := by decide +kernel
theorem dX5_look_34 : decode cX5_look 34 = .ok (.iconst 0, 1) := by decide +kernel
theorem dX5_look_35 : decode cX5_look 35 = .ok (.iconst 0, 1) := by decide +kernel
theorem dX5_look_36 : decode cX5_look 36 = .ok (.invokevirtual 48, 3) := by decide +kernel
theorem dX5_look_39 : decode cX5_look 39 = .ok (.return_, 1) := by decide +kernel
theorem dX5_tryFrom_0 : decode cX5_tryFrom 0 = .ok (.iload_n 2, 1) := by decide +kernel
theorem dX5_tryFrom_1 : decode cX5_tryFrom 1 = .ok (.aload_n 1, 1) := by decide +kernel
theorem dX5_tryFrom_2 : decode cX5_tryFrom 2 = .ok (.getfield 52, 3) := by decide +kernel
theorem dX5_tryFrom_5 : decode cX5_tryFrom 5 = .ok (.if_icmp .ge 9, 3) := by decide +kernel
theorem dX5_tryFrom_8 : decode cX5_tryFrom 8 = .ok (.iload_n 2, 1) := by decide +kernel
theorem dX5_tryFrom_9 : decode cX5_tryFrom 9 = .ok (.bipush 6, 2) := by decide +kernel
theorem dX5_tryFrom_11 : decode cX5_tryFrom 11 = .ok (.if_icmp .lt 15, 3) := by decide +kernel
theorem dX5_tryFrom_14 : decode cX5_tryFrom 14 = .ok (.aload_n 0, 1) := by decide +kernel
theorem dX5_tryFrom_15 : decode cX5_tryFrom 15 = .ok (.aload_n 0, 1) := by decide +kernel
theorem dX5_tryFrom_16 : decode cX5_tryFrom 16 = .ok (.getfield 11, 3) := by decide +kernel
theorem dX5_tryFrom_19 : decode cX5_tryFrom 19 = .ok (.iload_n 2, 1) := by decide +kernel
theorem dX5_tryFrom_20 : decode cX5_tryFrom 20 = .ok (.aaload, 1) := by decide +kernel
theorem dX5_tryFrom_21 : decode cX5_tryFrom 21 = .ok (.iload_n 2, 1) := by decide +kernel
theorem dX5_tryFrom_22 : decode cX5_tryFrom 22 = .ok (.invokevirtual 55, 3) := by decide +kernel
theorem dX5_tryFrom_25 : decode cX5_tryFrom 25 = .ok (.return_, 1) := by decide +kernel
theorem dX5_tryFrom_26 : decode cX5_tryFrom 26 = .ok (.iconst 0, 1) := by decide +kernel
theorem dX5_tryFrom_27 : decode cX5_tryFrom 27 = .ok (.istore 4, 2) := by decide +kernel
theorem dX5_tryFrom_29 : decode cX5_tryFrom 29 = .ok (.iload 4, 2) := by decide +kernel
theorem dX5_tryFrom_31 : decode cX5_tryFrom 31 = .ok (.aload_n 1, 1) := by decide +kernel
theorem dX5_tryFrom_32 : decode cX5_tryFrom 32 = .ok (.getfield 52, 3) := by decide +kernel
theorem dX5_tryFrom_35 : decode cX5_tryFrom 35 = .ok (.if_icmp .ge 72, 3) := by decide +kernel
theorem dX5_tryFrom_38 : decode cX5_tryFrom 38 = .ok (.aload_n 1, 1) := by decide +kernel
theorem dX5_tryFrom_39 : decode cX5_tryFrom 39 = .ok (.iload 4, 2) := by decide +kernel
theorem dX5_tryFrom_41 : decode cX5_tryFrom 41 = .ok (.iload_n 3, 1) := by decide +kernel
theorem dX5_tryFrom_42 : decode cX5_tryFrom 42 = .ok (.invokevirtual 59, 3) := by decide +kernel
theorem dX5_tryFrom_45 : decode cX5_tryFrom 45 = .ok (.ifCond .eq 56, 3) := by decide +kernel
theorem dX5_tryFrom_48 : decode cX5_tryFrom 48 = .ok (.aload_n 0, 1) := by decide +kernel
theorem dX5_tryFrom_49 : decode cX5_tryFrom 49 = .ok (.getfield 11, 3) := by decide +kernel
theorem dX5_tryFrom_52 : decode cX5_tryFrom 52 = .ok (.iload_n 2, 1) := by decide +kernel
theorem dX5_tryFrom_53 : decode cX5_tryFrom 53 = .ok (.iconst 1, 1) := by decide +kernel
theorem dX5_tryFrom_54 : decode cX5_tryFrom 54 = .ok (.iadd, 1) := by decide +kernel
theorem dX5_tryFrom_55 : decode cX5_tryFrom 55 = .ok (.aaload, 1) := by decide +kernel
theorem dX5_tryFrom_56 : decode cX5_tryFrom 56 = .ok (.aload_n 0, 1) := by decide +kernel
theorem dX5_tryFrom_57 : decode cX5_tryFrom 57 = .ok (.getfield 11, 3) := by decide +kernel
theorem dX5_tryFrom_60 : decode cX5_tryFrom 60 = .ok (.iload_n 2, 1) := by decide +kernel
theorem dX5_tryFrom_61 : decode cX5_tryFrom 61 = .ok (.aaload, 1) := by decide +kernel
theorem dX5_tryFrom_62 : decode cX5_tryFrom 62 = .ok (.invokevirtual 63, 3) := by decide +kernel
theorem dX5_tryFrom_65 : decode cX5_tryFrom 65 = .ok (.aload_n 0, 1) := by decide +kernel
theorem dX5_tryFrom_66 : decode cX5_tryFrom 66 = .ok (.getfield 11, 3) := by decide +kernel
theorem dX5_tryFrom_69 : decode cX5_tryFrom 69 = .ok (.iload_n 2, 1) := by decide +kernel
theorem dX5_tryFrom_70 : decode cX5_tryFrom 70 = .ok (.iconst 1, 1) := by decide +kernel
theorem dX5_tryFrom_71 : decode cX5_tryFrom 71 = .ok (.iadd, 1) := by decide +kernel
theorem dX5_tryFrom_72 : decode cX5_tryFrom 72 = .ok (.aaload, 1) := by decide +kernel
theorem dX5_tryFrom_73 : decode cX5_tryFrom 73 = .ok (.aload_n 1, 1) := by decide +kernel
theorem dX5_tryFrom_74 : decode cX5_tryFrom 74 = .ok (.iload 4, 2) := by decide +kernel
theorem dX5_tryFrom_76 : decode cX5_tryFrom 76 = .ok (.invokevirtual 67, 3) := by decide +kernel
theorem dX5_tryFrom_79 : decode cX5_tryFrom 79 = .ok (.aload_n 0, 1) := by decide +kernel
theorem dX5_tryFrom_80 : decode cX5_tryFrom 80 = .ok (.getfield 17, 3) := by decide +kernel
theorem dX5_tryFrom_83 : decode cX5_tryFrom 83 = .ok (.iload_n 2, 1) := by decide +kernel
theorem dX5_tryFrom_84 : decode cX5_tryFrom 84 = .ok (.iload 4, 2) := by decide +kernel
theorem dX5_tryFrom_86 : decode cX5_tryFrom 86 = .ok (.iastore, 1) := by decide +kernel
theorem dX5_tryFrom_87 : decode cX5_tryFrom 87 = .ok (.aload_n 0, 1) := by decide +kernel
theorem dX5_tryFrom_88 : decode cX5_tryFrom 88 = .ok (.aload_n 1, 1) := by decide +kernel
theorem dX5_tryFrom_89 : decode cX5_tryFrom 89 = .ok (.iload_n 2, 1) := by decide +kernel
theorem dX5_tryFrom_90 : decode cX5_tryFrom 90 = .ok (.iconst 1, 1) := by decide +kernel
theorem dX5_tryFrom_91 : decode cX5_tryFrom 91 = .ok (.iadd, 1) := by decide +kernel
theorem dX5_tryFrom_92 : decode cX5_tryFrom 92 = .ok (.iload_n 3, 1) := by decide +kernel
theorem dX5_tryFrom_93 : decode cX5_tryFrom 93 = .ok (.iconst 1, 1) := by decide +kernel
theorem dX5_tryFrom_94 : decode cX5_tryFrom 94 = .ok (.iload 4, 2) := by decide +kernel
theorem dX5_tryFrom_96 : decode cX5_tryFrom 96 = .ok (.ishl, 1) := by decide +kernel
theorem dX5_tryFrom_97 : decode cX5_tryFrom 97 = .ok (.ior, 1) := by decide +kernel
theorem dX5_tryFrom_98 : decode cX5_tryFrom 98 = .ok (.invokevirtual 48, 3) := by decide +kernel
theorem dX5_tryFrom_101 : decode cX5_tryFrom 101 = .ok (.iinc 4 1, 3) := by decide +kernel
theorem dX5_tryFrom_104 : decode cX5_tryFrom 104 = .ok (.goto (-75), 3) := by decide +kernel
theorem dX5_tryFrom_107 : decode cX5_tryFrom 107 = .ok (.return_, 1) := by decide +kernel
theorem dX5_weigh_0 : decode cX5_weigh 0 = .ok (.aload_n 1, 1) := by decide +kernel
theorem dX5_weigh_1 : decode cX5_weigh 1 = .ok (.invokevirtual 71, 3) := by decide +kernel
theorem dX5_weigh_4 : decode cX5_weigh 4 = .ok (.aload_n 1, 1) := by decide +kernel
theorem dX5_weigh_5 : decode cX5_weigh 5 = .ok (.invokevirtual 74, 3) := by decide +kernel
theorem dX5_weigh_8 : decode cX5_weigh 8 = .ok (.istore_n 3, 1) := by decide +kernel
theorem dX5_weigh_9 : decode cX5_weigh 9 = .ok (.aload_n 0, 1) := by decide +kernel
theorem dX5_weigh_10 : decode cX5_weigh 10 = .ok (.getfield 31, 3) := by decide +kernel
theorem dX5_weigh_13 : decode cX5_weigh 13 = .ok (.ifCond .eq 11, 3) := by decide +kernel
theorem dX5_weigh_16 : decode cX5_weigh 16 = .ok (.iload_n 3, 1) := by decide +kernel
theorem dX5_weigh_17 : decode cX5_weigh 17 = .ok (.aload_n 0, 1) := by decide +kernel
theorem dX5_weigh_18 : decode cX5_weigh 18 = .ok (.getfield 34, 3) := by decide +kernel
theorem dX5_weigh_21 : decode cX5_weigh 21 = .ok (.if_icmp .ge 27, 3) := by decide +kernel
theorem dX5_weigh_24 : decode cX5_weigh 24 = .ok (.aload_n 0, 1) := by decide +kernel
theorem dX5_weigh_25 : decode cX5_weigh 25 = .ok (.iconst 1, 1) := by decide +kernel
theorem dX5_weigh_26 : decode cX5_weigh 26 = .ok (.putfield 31, 3) := by decide +kernel
theorem dX5_weigh_29 : decode cX5_weigh 29 = .ok (.aload_n 0, 1) := by decide +kernel
theorem dX5_weigh_30 : decode cX5_weigh 30 = .ok (.iload_n 3, 1) := by decide +kernel
theorem dX5_weigh_31 : decode cX5_weigh 31 = .ok (.putfield 34, 3) := by decide +kernel
theorem dX5_weigh_34 : decode cX5_weigh 34 = .ok (.aload_n 0, 1) := by decide +kernel
theorem dX5_weigh_35 : decode cX5_weigh 35 = .ok (.getfield 17, 3) := by decide +kernel
theorem dX5_weigh_38 : decode cX5_weigh 38 = .ok (.iconst 0, 1) := by decide +kernel
theorem dX5_weigh_39 : decode cX5_weigh 39 = .ok (.aload_n 0, 1) := by decide +kernel
theorem dX5_weigh_40 : decode cX5_weigh 40 = .ok (.getfield 21, 3) := by decide +kernel
theorem dX5_weigh_43 : decode cX5_weigh 43 = .ok (.iconst 0, 1) := by decide +kernel
theorem dX5_weigh_44 : decode cX5_weigh 44 = .ok (.iload_n 2, 1) := by decide +kernel
theorem dX5_weigh_45 : decode cX5_weigh 45 = .ok (.invokestatic 78, 3) := by decide +kernel
theorem dX5_weigh_48 : decode cX5_weigh 48 = .ok (.return_, 1) := by decide +kernel
theorem dX5_howManyFit_0 : decode cX5_howManyFit 0 = .ok (.iconst 1, 1) := by decide +kernel
theorem dX5_howManyFit_1 : decode cX5_howManyFit 1 = .ok (.aload_n 1, 1) := by decide +kernel
theorem dX5_howManyFit_2 : decode cX5_howManyFit 2 = .ok (.getfield 52, 3) := by decide +kernel
theorem dX5_howManyFit_5 : decode cX5_howManyFit 5 = .ok (.ishl, 1) := by decide +kernel
theorem dX5_howManyFit_6 : decode cX5_howManyFit 6 = .ok (.iconst 1, 1) := by decide +kernel
theorem dX5_howManyFit_7 : decode cX5_howManyFit 7 = .ok (.isub, 1) := by decide +kernel
theorem dX5_howManyFit_8 : decode cX5_howManyFit 8 = .ok (.istore_n 2, 1) := by decide +kernel
theorem dX5_howManyFit_9 : decode cX5_howManyFit 9 = .ok (.aload_n 0, 1) := by decide +kernel
theorem dX5_howManyFit_10 : decode cX5_howManyFit 10 = .ok (.getfield 24, 3) := by decide +kernel
theorem dX5_howManyFit_13 : decode cX5_howManyFit 13 = .ok (.iconst 0, 1) := by decide +kernel
theorem dX5_howManyFit_14 : decode cX5_howManyFit 14 = .ok (.invokestatic 84, 3) := by decide +kernel
theorem dX5_howManyFit_17 : decode cX5_howManyFit 17 = .ok (.aload_n 0, 1) := by decide +kernel
theorem dX5_howManyFit_18 : decode cX5_howManyFit 18 = .ok (.getfield 24, 3) := by decide +kernel
theorem dX5_howManyFit_21 : decode cX5_howManyFit 21 = .ok (.iconst 0, 1) := by decide +kernel
theorem dX5_howManyFit_22 : decode cX5_howManyFit 22 = .ok (.iconst 1, 1) := by decide +kernel
theorem dX5_howManyFit_23 : decode cX5_howManyFit 23 = .ok (.iastore, 1) := by decide +kernel
theorem dX5_howManyFit_24 : decode cX5_howManyFit 24 = .ok (.iconst 0, 1) := by decide +kernel
theorem dX5_howManyFit_25 : decode cX5_howManyFit 25 = .ok (.istore_n 3, 1) := by decide +kernel
theorem dX5_howManyFit_26 : decode cX5_howManyFit 26 = .ok (.iload_n 3, 1) := by decide +kernel
theorem dX5_howManyFit_27 : decode cX5_howManyFit 27 = .ok (.iload_n 2, 1) := by decide +kernel
theorem dX5_howManyFit_28 : decode cX5_howManyFit 28 = .ok (.if_icmp .ge 57, 3) := by decide +kernel
theorem dX5_howManyFit_31 : decode cX5_howManyFit 31 = .ok (.iconst 0, 1) := by decide +kernel
theorem dX5_howManyFit_32 : decode cX5_howManyFit 32 = .ok (.istore 4, 2) := by decide +kernel
theorem dX5_howManyFit_34 : decode cX5_howManyFit 34 = .ok (.iload 4, 2) := by decide +kernel
theorem dX5_howManyFit_36 : decode cX5_howManyFit 36 = .ok (.aload_n 1, 1) := by decide +kernel
theorem dX5_howManyFit_37 : decode cX5_howManyFit 37 = .ok (.getfield 52, 3) := by decide +kernel
theorem dX5_howManyFit_40 : decode cX5_howManyFit 40 = .ok (.if_icmp .ge 39, 3) := by decide +kernel
theorem dX5_howManyFit_43 : decode cX5_howManyFit 43 = .ok (.aload_n 1, 1) := by decide +kernel
theorem dX5_howManyFit_44 : decode cX5_howManyFit 44 = .ok (.iload 4, 2) := by decide +kernel
theorem dX5_howManyFit_46 : decode cX5_howManyFit 46 = .ok (.iload_n 3, 1) := by decide +kernel
theorem dX5_howManyFit_47 : decode cX5_howManyFit 47 = .ok (.invokevirtual 59, 3) := by decide +kernel
theorem dX5_howManyFit_50 : decode cX5_howManyFit 50 = .ok (.ifCond .eq 23, 3) := by decide +kernel
theorem dX5_howManyFit_53 : decode cX5_howManyFit 53 = .ok (.aload_n 0, 1) := by decide +kernel
theorem dX5_howManyFit_54 : decode cX5_howManyFit 54 = .ok (.getfield 24, 3) := by decide +kernel
theorem dX5_howManyFit_57 : decode cX5_howManyFit 57 = .ok (.iload_n 3, 1) := by decide +kernel
theorem dX5_howManyFit_58 : decode cX5_howManyFit 58 = .ok (.iconst 1, 1) := by decide +kernel
theorem dX5_howManyFit_59 : decode cX5_howManyFit 59 = .ok (.iload 4, 2) := by decide +kernel
theorem dX5_howManyFit_61 : decode cX5_howManyFit 61 = .ok (.ishl, 1) := by decide +kernel
theorem dX5_howManyFit_62 : decode cX5_howManyFit 62 = .ok (.ior, 1) := by decide +kernel
theorem dX5_howManyFit_63 : decode cX5_howManyFit 63 = .ok (.dup2, 1) := by decide +kernel
theorem dX5_howManyFit_64 : decode cX5_howManyFit 64 = .ok (.iaload, 1) := by decide +kernel
theorem dX5_howManyFit_65 : decode cX5_howManyFit 65 = .ok (.aload_n 0, 1) := by decide +kernel
theorem dX5_howManyFit_66 : decode cX5_howManyFit 66 = .ok (.getfield 24, 3) := by decide +kernel
theorem dX5_howManyFit_69 : decode cX5_howManyFit 69 = .ok (.iload_n 3, 1) := by decide +kernel
theorem dX5_howManyFit_70 : decode cX5_howManyFit 70 = .ok (.iaload, 1) := by decide +kernel
theorem dX5_howManyFit_71 : decode cX5_howManyFit 71 = .ok (.iadd, 1) := by decide +kernel
theorem dX5_howManyFit_72 : decode cX5_howManyFit 72 = .ok (.iastore, 1) := by decide +kernel
theorem dX5_howManyFit_73 : decode cX5_howManyFit 73 = .ok (.iinc 4 1, 3) := by decide +kernel
theorem dX5_howManyFit_76 : decode cX5_howManyFit 76 = .ok (.goto (-42), 3) := by decide +kernel
theorem dX5_howManyFit_79 : decode cX5_howManyFit 79 = .ok (.iinc 3 1, 3) := by decide +kernel
theorem dX5_howManyFit_82 : decode cX5_howManyFit 82 = .ok (.goto (-56), 3) := by decide +kernel
theorem dX5_howManyFit_85 : decode cX5_howManyFit 85 = .ok (.aload_n 0, 1) := by decide +kernel
theorem dX5_howManyFit_86 : decode cX5_howManyFit 86 = .ok (.getfield 24, 3) := by decide +kernel
theorem dX5_howManyFit_89 : decode cX5_howManyFit 89 = .ok (.iload_n 2, 1) := by decide +kernel
theorem dX5_howManyFit_90 : decode cX5_howManyFit 90 = .ok (.iaload, 1) := by decide +kernel
theorem dX5_howManyFit_91 : decode cX5_howManyFit 91 = .ok (.ireturn, 1) := by decide +kernel
theorem dX6_init_0 : decode cX6_init 0 = .ok (.aload_n 0, 1) := by decide +kernel
theorem dX6_init_1 : decode cX6_init 1 = .ok (.invokespecial 3, 3) := by decide +kernel
theorem dX6_init_4 : decode cX6_init 4 = .ok (.aload_n 0, 1) := by decide +kernel
theorem dX6_init_5 : decode cX6_init 5 = .ok (.bipush 8, 2) := by decide +kernel
theorem dX6_init_7 : decode cX6_init 7 = .ok (.newarray .int, 2) := by decide +kernel
theorem dX6_init_9 : decode cX6_init 9 = .ok (.putfield 9, 3) := by decide +kernel
theorem dX6_init_12 : decode cX6_init 12 = .ok (.aload_n 0, 1) := by decide +kernel
theorem dX6_init_13 : decode cX6_init 13 = .ok (.bipush 8, 2) := by decide +kernel
theorem dX6_init_15 : decode cX6_init 15 = .ok (.newarray .int, 2) := by decide +kernel
theorem dX6_init_17 : decode cX6_init 17 = .ok (.putfield 15, 3) := by decide +kernel
theorem dX6_init_20 : decode cX6_init 20 = .ok (.aload_n 0, 1) := by decide +kernel
theorem dX6_init_21 : decode cX6_init 21 = .ok (.bipush 8, 2) := by decide +kernel
theorem dX6_init_23 : decode cX6_init 23 = .ok (.bipush 40, 2) := by decide +kernel
theorem dX6_init_25 : decode cX6_init 25 = .ok (.multianewarray 18 2, 4) := by decide +kernel
theorem dX6_init_29 : decode cX6_init 29 = .ok (.putfield 20, 3) := by decide +kernel
theorem dX6_init_32 : decode cX6_init 32 = .ok (.aload_n 0, 1) := by decide +kernel
theorem dX6_init_33 : decode cX6_init 33 = .ok (.getfield 15, 3) := by decide +kernel
theorem dX6_init_36 : decode cX6_init 36 = .ok (.iconst (-1), 1) := by decide +kernel
theorem dX6_init_37 : decode cX6_init 37 = .ok (.invokestatic 23, 3) := by decide +kernel
theorem dX6_init_40 : decode cX6_init 40 = .ok (.return_, 1) := by decide +kernel
theorem dX6_hasNumber_0 : decode cX6_hasNumber 0 = .ok (.iload_n 1, 1) := by decide +kernel
theorem dX6_hasNumber_1 : decode cX6_hasNumber 1 = .ok (.ifCond .lt 13, 3) := by decide +kernel
theorem dX6_hasNumber_4 : decode cX6_hasNumber 4 = .ok (.iload_n 1, 1) := by decide +kernel
theorem dX6_hasNumber_5 : decode cX6_hasNumber 5 = .ok (.bipush 8, 2) := by decide +kernel
theorem dX6_hasNumber_7 : decode cX6_hasNumber 7 = .ok (.if_icmp .ge 7, 3) := by decide +kernel
theorem dX6_hasNumber_10 : decode cX6_hasNumber 10 = .ok (.iconst 1, 1) := by decide +kernel
theorem dX6_hasNumber_11 : decode cX6_hasNumber 11 = .ok (.goto 4, 3) := by decide +kernel
theorem dX6_hasNumber_14 : decode cX6_hasNumber 14 = .ok (.iconst 0, 1) := by decide +kernel
theorem dX6_hasNumber_15 : decode cX6_hasNumber 15 = .ok (.ireturn, 1) := by decide +kernel
theorem dX6_isMissing_0 : decode cX6_isMissing 0 = .ok (.iload_n 1, 1) := by decide +kernel
theorem dX6_isMissing_1 : decode cX6_isMissing 1 = .ok (.ifCond .lt 19, 3) := by decide +kernel
theorem dX6_isMissing_4 : decode cX6_isMissing 4 = .ok (.iload_n 1, 1) := by decide +kernel
theorem dX6_isMissing_5 : decode cX6_isMissing 5 = .ok (.bipush 8, 2) := by decide +kernel
theorem dX6_isMissing_7 : decode cX6_isMissing 7 = .ok (.if_icmp .ge 13, 3) := by decide +kernel
theorem dX6_isMissing_10 : decode cX6_isMissing 10 = .ok (.aload_n 0, 1) := by decide +kernel
theorem dX6_isMissing_11 : decode cX6_isMissing 11 = .ok (.getfield 15, 3) := by decide +kernel
theorem dX6_isMissing_14 : decode cX6_isMissing 14 = .ok (.iload_n 1, 1) := by decide +kernel
theorem dX6_isMissing_15 : decode cX6_isMissing 15 = .ok (.iaload, 1) := by decide +kernel
theorem dX6_isMissing_16 : decode cX6_isMissing 16 = .ok (.iconst (-1), 1) := by decide +kernel
theorem dX6_isMissing_17 : decode cX6_isMissing 17 = .ok (.if_icmp .ne 7, 3) := by decide +kernel
theorem dX6_isMissing_20 : decode cX6_isMissing 20 = .ok (.iconst 1, 1) := by decide +kernel
theorem dX6_isMissing_21 : decode cX6_isMissing 21 = .ok (.goto 4, 3) := by decide +kernel
theorem dX6_isMissing_24 : decode cX6_isMissing 24 = .ok (.iconst 0, 1) := by decide +kernel
theorem dX6_isMissing_25 : decode cX6_isMissing 25 = .ok (.ireturn, 1) := by decide +kernel
theorem dX6_howMany_0 : decode cX6_howMany 0 = .ok (.iconst 0, 1) := by decide +kernel
theorem dX6_howMany_1 : decode cX6_howMany 1 = .ok (.istore_n 1, 1) := by decide +kernel
theorem dX6_howMany_2 : decode cX6_howMany 2 = .ok (.iconst 0, 1) := by decide +kernel
theorem dX6_howMany_3 : decode cX6_howMany 3 = .ok (.istore_n 2, 1) := by decide +kernel
theorem dX6_howMany_4 : decode cX6_howMany 4 = .ok (.iload_n 2, 1) := by decide +kernel
theorem dX6_howMany_5 : decode cX6_howMany 5 = .ok (.bipush 8, 2) := by decide +kernel
theorem dX6_howMany_7 : decode cX6_howMany 7 = .ok (.if_icmp .ge 22, 3) := by decide +kernel
theorem dX6_howMany_10 : decode cX6_howMany 10 = .ok (.aload_n 0, 1) := by decide +kernel
theorem dX6_howMany_11 : decode cX6_howMany 11 = .ok (.getfield 15, 3) := by decide +kernel
theorem dX6_howMany_14 : decode cX6_howMany 14 = .ok (.iload_n 2, 1) := by decide +kernel
theorem dX6_howMany_15 : decode cX6_howMany 15 = .ok (.iaload, 1) := by decide +kernel
theorem dX6_howMany_16 : decode cX6_howMany 16 = .ok (.iconst (-1), 1) := by decide +kernel
theorem dX6_howMany_17 : decode cX6_howMany 17 = .ok (.if_icmp .eq 6, 3) := by decide +kernel
theorem dX6_howMany_20 : decode cX6_howMany 20 = .ok (.iinc 1 1, 3) := by decide +kernel
theorem dX6_howMany_23 : decode cX6_howMany 23 = .ok (.iinc 2 1, 3) := by decide +kernel
theorem dX6_howMany_26 : decode cX6_howMany 26 = .ok (.goto (-22), 3) := by decide +kernel
theorem dX6_howMany_29 : decode cX6_howMany 29 = .ok (.iload_n 1, 1) := by decide +kernel
theorem dX6_howMany_30 : decode cX6_howMany 30 = .ok (.ireturn, 1) := by decide +kernel
theorem dX6_findingAt_0 : decode cX6_findingAt 0 = .ok (.aload_n 0, 1) := by decide +kernel
theorem dX6_findingAt_1 : decode cX6_findingAt 1 = .ok (.iload_n 1, 1) := by decide +kernel
theorem dX6_findingAt_2 : decode cX6_findingAt 2 = .ok (.invokevirtual 29, 3) := by decide +kernel
theorem dX6_findingAt_5 : decode cX6_findingAt 5 = .ok (.ifCond .eq 5, 3) := by decide +kernel
theorem dX6_findingAt_8 : decode cX6_findingAt 8 = .ok (.iconst 1, 1) := by decide +kernel
theorem dX6_findingAt_9 : decode cX6_findingAt 9 = .ok (.ireturn, 1) := by decide +kernel
theorem dX6_findingAt_10 : decode cX6_findingAt 10 = .ok (.iload_n 2, 1) := by decide +kernel
theorem dX6_findingAt_11 : decode cX6_findingAt 11 = .ok (.ifCond .lt 19, 3) := by decide +kernel
theorem dX6_findingAt_14 : decode cX6_findingAt 14 = .ok (.iload_n 3, 1) := by decide +kernel
theorem dX6_findingAt_15 : decode cX6_findingAt 15 = .ok (.ifCond .lt 15, 3) := by decide +kernel
theorem dX6_findingAt_18 : decode cX6_findingAt 18 = .ok (.iload_n 2, 1) := by decide +kernel
theorem dX6_findingAt_19 : decode cX6_findingAt 19 = .ok (.aload_n 0, 1) := by decide +kernel
theorem dX6_findingAt_20 : decode cX6_findingAt 20 = .ok (.getfield 15, 3) := by decide +kernel
theorem dX6_findingAt_23 : decode cX6_findingAt 23 = .ok (.iload_n 1, 1) := by decide +kernel
theorem dX6_findingAt_24 : decode cX6_findingAt 24 = .ok (.iaload, 1) := by decide +kernel
theorem dX6_findingAt_25 : decode cX6_findingAt 25 = .ok (.iload_n 3, 1) := by decide +kernel
theorem dX6_findingAt_26 : decode cX6_findingAt 26 = .ok (.isub, 1) := by decide +kernel
theorem dX6_findingAt_27 : decode cX6_findingAt 27 = .ok (.if_icmp .le 7, 3) := by decide +kernel
theorem dX6_findingAt_30 : decode cX6_findingAt 30 = .ok (.iconst 2, 1) := by decide +kernel
theorem dX6_findingAt_31 : decode cX6_findingAt 31 = .ok (.goto 4, 3) := by decide +kernel
theorem dX6_findingAt_34 : decode cX6_findingAt 34 = .ok (.iconst 0, 1) := by decide +kernel
theorem dX6_findingAt_35 : decode cX6_findingAt 35 = .ok (.ireturn, 1) := by decide +kernel
theorem dX6_findingBetween_0 : decode cX6_findingBetween 0 = .ok (.aload_n 0, 1) := by decide +kernel
theorem dX6_findingBetween_1 : decode cX6_findingBetween 1 = .ok (.iload_n 1, 1) := by decide +kernel
theorem dX6_findingBetween_2 : decode cX6_findingBetween 2 = .ok (.invokevirtual 29, 3) := by decide +kernel
theorem dX6_findingBetween_5 : decode cX6_findingBetween 5 = .ok (.ifCond .ne 11, 3) := by decide +kernel
theorem dX6_findingBetween_8 : decode cX6_findingBetween 8 = .ok (.aload_n 0, 1) := by decide +kernel
theorem dX6_findingBetween_9 : decode cX6_findingBetween 9 = .ok (.iload_n 2, 1) := by decide +kernel
theorem dX6_findingBetween_10 : decode cX6_findingBetween 10 = .ok (.invokevirtual 29, 3) := by decide +kernel
theorem dX6_findingBetween_13 : decode cX6_findingBetween 13 = .ok (.ifCond .eq 5, 3) := by decide +kernel
theorem dX6_findingBetween_16 : decode cX6_findingBetween 16 = .ok (.iconst 1, 1) := by decide +kernel
theorem dX6_findingBetween_17 : decode cX6_findingBetween 17 = .ok (.ireturn, 1) := by decide +kernel
theorem dX6_findingBetween_18 : decode cX6_findingBetween 18 = .ok (.aload_n 0, 1) := by decide +kernel
theorem dX6_findingBetween_19 : decode cX6_findingBetween 19 = .ok (.getfield 9, 3) := by decide +kernel
theorem dX6_findingBetween_22 : decode cX6_findingBetween 22 = .ok (.iload_n 1, 1) := by decide +kernel
theorem dX6_findingBetween_23 : decode cX6_findingBetween 23 = .ok (.iaload, 1) := by decide +kernel
theorem dX6_findingBetween_24 : decode cX6_findingBetween 24 = .ok (.aload_n 0, 1) := by decide +kernel
theorem dX6_findingBetween_25 : decode cX6_findingBetween 25 = .ok (.getfield 9, 3) := by decide +kernel
theorem dX6_findingBetween_28 : decode cX6_findingBetween 28 = .ok (.iload_n 2, 1) := by decide +kernel
theorem dX6_findingBetween_29 : decode cX6_findingBetween 29 = .ok (.iaload, 1) := by decide +kernel
theorem dX6_findingBetween_30 : decode cX6_findingBetween 30 = .ok (.if_icmp .eq 7, 3) := by decide +kernel
theorem dX6_findingBetween_33 : decode cX6_findingBetween 33 = .ok (.iconst 5, 1) := by decide +kernel
theorem dX6_findingBetween_34 : decode cX6_findingBetween 34 = .ok (.goto 4, 3) := by decide +kernel
theorem dX6_findingBetween_37 : decode cX6_findingBetween 37 = .ok (.iconst 0, 1) := by decide +kernel
theorem dX6_findingBetween_38 : decode cX6_findingBetween 38 = .ok (.ireturn, 1) := by decide +kernel
theorem dX6_lay_0 : decode cX6_lay 0 = .ok (.aload_n 0, 1) := by decide +kernel
theorem dX6_lay_1 : decode cX6_lay 1 = .ok (.getfield 9, 3) := by decide +kernel
theorem dX6_lay_4 : decode cX6_lay 4 = .ok (.iload_n 1, 1) := by decide +kernel
theorem dX6_lay_5 : decode cX6_lay 5 = .ok (.iload_n 2, 1) := by decide +kernel
theorem dX6_lay_6 : decode cX6_lay 6 = .ok (.iastore, 1) := by decide +kernel
theorem dX6_lay_7 : decode cX6_lay 7 = .ok (.aload_n 0, 1) := by decide +kernel
theorem dX6_lay_8 : decode cX6_lay 8 = .ok (.getfield 15, 3) := by decide +kernel
theorem dX6_lay_11 : decode cX6_lay 11 = .ok (.iload_n 1, 1) := by decide +kernel
theorem dX6_lay_12 : decode cX6_lay 12 = .ok (.iload_n 3, 1) := by decide +kernel
theorem dX6_lay_13 : decode cX6_lay 13 = .ok (.iastore, 1) := by decide +kernel
theorem dX6_lay_14 : decode cX6_lay 14 = .ok (.aload_n 0, 1) := by decide +kernel
theorem dX6_lay_15 : decode cX6_lay 15 = .ok (.getfield 20, 3) := by decide +kernel
theorem dX6_lay_18 : decode cX6_lay 18 = .ok (.iload_n 1, 1) := by decide +kernel
theorem dX6_lay_19 : decode cX6_lay 19 = .ok (.aaload, 1) := by decide +kernel
theorem dX6_lay_20 : decode cX6_lay 20 = .ok (.iconst 0, 1) := by decide +kernel
theorem dX6_lay_21 : decode cX6_lay 21 = .ok (.invokestatic 23, 3) := by decide +kernel
theorem dX6_lay_24 : decode cX6_lay 24 = .ok (.return_, 1) := by decide +kernel
theorem dX6_takeAway_0 : decode cX6_takeAway 0 = .ok (.aload_n 0, 1) := by decide +kernel
theorem dX6_takeAway_1 : decode cX6_takeAway 1 = .ok (.getfield 15, 3) := by decide +kernel
theorem dX6_takeAway_4 : decode cX6_takeAway 4 = .ok (.iload_n 1, 1) := by decide +kernel
theorem dX6_takeAway_5 : decode cX6_takeAway 5 = .ok (.iaload, 1) := by decide +kernel
theorem dX6_takeAway_6 : decode cX6_takeAway 6 = .ok (.istore_n 2, 1) := by decide +kernel
theorem dX6_takeAway_7 : decode cX6_takeAway 7 = .ok (.aload_n 0, 1) := by decide +kernel
theorem dX6_takeAway_8 : decode cX6_takeAway 8 = .ok (.getfield 15, 3) := by decide +kernel
theorem dX6_takeAway_11 : decode cX6_takeAway 11 = .ok (.iload_n 1, 1) := by decide +kernel
theorem dX6_takeAway_12 : decode cX6_takeAway 12 = .ok (.iconst (-1), 1) := by decide +kernel
theorem dX6_takeAway_13 : decode cX6_takeAway 13 = .ok (.iastore, 1) := by decide +kernel
theorem dX6_takeAway_14 : decode cX6_takeAway 14 = .ok (.iload_n 2, 1) := by decide +kernel
theorem dX6_takeAway_15 : decode cX6_takeAway 15 = .ok (.ireturn, 1) := by decide +kernel
theorem dX6_put_0 : decode cX6_put 0 = .ok (.aload_n 0, 1) := by decide +kernel
theorem dX6_put_1 : decode cX6_put 1 = .ok (.getfield 20, 3) := by decide +kernel
theorem dX6_put_4 : decode cX6_put 4 = .ok (.iload_n 1, 1) := by decide +kernel
theorem dX6_put_5 : decode cX6_put 5 = .ok (.aaload, 1) := by decide +kernel
theorem dX6_put_6 : decode cX6_put 6 = .ok (.iload_n 2, 1) := by decide +kernel
theorem dX6_put_7 : decode cX6_put 7 = .ok (.aload_n 0, 1) := by decide +kernel
theorem dX6_put_8 : decode cX6_put 8 = .ok (.getfield 9, 3) := by decide +kernel
theorem dX6_put_11 : decode cX6_put 11 = .ok (.iload_n 1, 1) := by decide +kernel
theorem dX6_put_12 : decode cX6_put 12 = .ok (.iaload, 1) := by decide +kernel
theorem dX6_put_13 : decode cX6_put 13 = .ok (.iload_n 3, 1) := by decide +kernel
theorem dX6_put_14 : decode cX6_put 14 = .ok (.invokestatic 33, 3) := by decide +kernel
theorem dX6_put_17 : decode cX6_put 17 = .ok (.iastore, 1) := by decide +kernel
theorem dX6_put_18 : decode cX6_put 18 = .ok (.aload_n 0, 1) := by decide +kernel
theorem dX6_put_19 : decode cX6_put 19 = .ok (.getfield 20, 3) := by decide +kernel
theorem dX6_put_22 : decode cX6_put 22 = .ok (.iload_n 1, 1) := by decide +kernel
theorem dX6_put_23 : decode cX6_put 23 = .ok (.aaload, 1) := by decide +kernel
theorem dX6_put_24 : decode cX6_put 24 = .ok (.iload_n 2, 1) := by decide +kernel
theorem dX6_put_25 : decode cX6_put 25 = .ok (.iaload, 1) := by decide +kernel
theorem dX6_put_26 : decode cX6_put 26 = .ok (.ireturn, 1) := by decide +kernel
theorem dX6_narrowed_0 : decode cX6_narrowed 0 = .ok (.iload_n 0, 1) := by decide +kernel
theorem dX6_narrowed_1 : decode cX6_narrowed 1 = .ok (.lookupswitch 33 #[(0, 27), (1, 30)], 27) := by decide +kernel
theorem dX6_narrowed_28 : decode cX6_narrowed 28 = .ok (.iload_n 1, 1) := by decide +kernel
theorem dX6_narrowed_29 : decode cX6_narrowed 29 = .ok (.i2b, 1) := by decide +kernel
theorem dX6_narrowed_30 : decode cX6_narrowed 30 = .ok (.ireturn, 1) := by decide +kernel
theorem dX6_narrowed_31 : decode cX6_narrowed 31 = .ok (.iload_n 1, 1) := by decide +kernel
theorem dX6_narrowed_32 : decode cX6_narrowed 32 = .ok (.i2s, 1) := by decide +kernel
theorem dX6_narrowed_33 : decode cX6_narrowed 33 = .ok (.ireturn, 1) := by decide +kernel
theorem dX6_narrowed_34 : decode cX6_narrowed 34 = .ok (.iload_n 1, 1) := by decide +kernel
theorem dX6_narrowed_35 : decode cX6_narrowed 35 = .ok (.ireturn, 1) := by decide +kernel
theorem dX6_carry_0 : decode cX6_carry 0 = .ok (.aload_n 0, 1) := by decide +kernel
theorem dX6_carry_1 : decode cX6_carry 1 = .ok (.getfield 20, 3) := by decide +kernel
theorem dX6_carry_4 : decode cX6_carry 4 = .ok (.iload_n 1, 1) := by decide +kernel
theorem dX6_carry_5 : decode cX6_carry 5 = .ok (.aaload, 1) := by decide +kernel
theorem dX6_carry_6 : decode cX6_carry 6 = .ok (.iload_n 2, 1) := by decide +kernel
theorem dX6_carry_7 : decode cX6_carry 7 = .ok (.aload_n 0, 1) := by decide +kernel
theorem dX6_carry_8 : decode cX6_carry 8 = .ok (.getfield 20, 3) := by decide +kernel
theorem dX6_carry_11 : decode cX6_carry 11 = .ok (.iload_n 3, 1) := by decide +kernel
theorem dX6_carry_12 : decode cX6_carry 12 = .ok (.aaload, 1) := by decide +kernel
theorem dX6_carry_13 : decode cX6_carry 13 = .ok (.iload 4, 2) := by decide +kernel
theorem dX6_carry_15 : decode cX6_carry 15 = .ok (.iload 5, 2) := by decide +kernel
theorem dX6_carry_17 : decode cX6_carry 17 = .ok (.invokestatic 37, 3) := by decide +kernel
theorem dX6_carry_20 : decode cX6_carry 20 = .ok (.return_, 1) := by decide +kernel
theorem dX6_itemAt_0 : decode cX6_itemAt 0 = .ok (.aload_n 0, 1) := by decide +kernel
theorem dX6_itemAt_1 : decode cX6_itemAt 1 = .ok (.iload_n 1, 1) := by decide +kernel
theorem dX6_itemAt_2 : decode cX6_itemAt 2 = .ok (.iload_n 2, 1) := by decide +kernel
theorem dX6_itemAt_3 : decode cX6_itemAt 3 = .ok (.iconst 1, 1) := by decide +kernel
theorem dX6_itemAt_4 : decode cX6_itemAt 4 = .ok (.invokevirtual 43, 3) := by decide +kernel
theorem dX6_itemAt_7 : decode cX6_itemAt 7 = .ok (.ifCond .ne 14, 3) := by decide +kernel
theorem dX6_itemAt_10 : decode cX6_itemAt 10 = .ok (.aload_n 0, 1) := by decide +kernel
theorem dX6_itemAt_11 : decode cX6_itemAt 11 = .ok (.getfield 20, 3) := by decide +kernel
theorem dX6_itemAt_14 : decode cX6_itemAt 14 = .ok (.iload_n 1, 1) := by decide +kernel
theorem dX6_itemAt_15 : decode cX6_itemAt 15 = .ok (.aaload, 1) := by decide +kernel
theorem dX6_itemAt_16 : decode cX6_itemAt 16 = .ok (.iload_n 2, 1) := by decide +kernel
theorem dX6_itemAt_17 : decode cX6_itemAt 17 = .ok (.iaload, 1) := by decide +kernel
theorem dX6_itemAt_18 : decode cX6_itemAt 18 = .ok (.goto 4, 3) := by decide +kernel
theorem dX6_itemAt_21 : decode cX6_itemAt 21 = .ok (.iconst 0, 1) := by decide +kernel
theorem dX6_itemAt_22 : decode cX6_itemAt 22 = .ok (.ireturn, 1) := by decide +kernel
theorem dX6_tellsOrder_0 : decode cX6_tellsOrder 0 = .ok (.iconst 0, 1) := by decide +kernel
theorem dX6_tellsOrder_1 : decode cX6_tellsOrder 1 = .ok (.istore 4, 2) := by decide +kernel
theorem dX6_tellsOrder_3 : decode cX6_tellsOrder 3 = .ok (.iconst 0, 1) := by decide +kernel
theorem dX6_tellsOrder_4 : decode cX6_tellsOrder 4 = .ok (.istore 5, 2) := by decide +kernel
theorem dX6_tellsOrder_6 : decode cX6_tellsOrder 6 = .ok (.iload 5, 2) := by decide +kernel
theorem dX6_tellsOrder_8 : decode cX6_tellsOrder 8 = .ok (.iload_n 3, 1) := by decide +kernel
theorem dX6_tellsOrder_9 : decode cX6_tellsOrder 9 = .ok (.if_icmp .ge 53, 3) := by decide +kernel
theorem dX6_tellsOrder_12 : decode cX6_tellsOrder 12 = .ok (.aload_n 0, 1) := by decide +kernel
theorem dX6_tellsOrder_13 : decode cX6_tellsOrder 13 = .ok (.iload_n 1, 1) := by decide +kernel
theorem dX6_tellsOrder_14 : decode cX6_tellsOrder 14 = .ok (.iload_n 2, 1) := by decide +kernel
theorem dX6_tellsOrder_15 : decode cX6_tellsOrder 15 = .ok (.iload 5, 2) := by decide +kernel
theorem dX6_tellsOrder_17 : decode cX6_tellsOrder 17 = .ok (.iadd, 1) := by decide +kernel
theorem dX6_tellsOrder_18 : decode cX6_tellsOrder 18 = .ok (.invokevirtual 47, 3) := by decide +kernel
theorem dX6_tellsOrder_21 : decode cX6_tellsOrder 21 = .ok (.istore 6, 2) := by decide +kernel
theorem dX6_tellsOrder_23 : decode cX6_tellsOrder 23 = .ok (.iload 6, 2) := by decide +kernel
theorem dX6_tellsOrder_25 : decode cX6_tellsOrder 25 = .ok (.ifCond .lt 20, 3) := by decide +kernel
theorem dX6_tellsOrder_28 : decode cX6_tellsOrder 28 = .ok (.iload 6, 2) := by decide +kernel
theorem dX6_tellsOrder_30 : decode cX6_tellsOrder 30 = .ok (.iload_n 3, 1) := by decide +kernel
theorem dX6_tellsOrder_31 : decode cX6_tellsOrder 31 = .ok (.if_icmp .ge 14, 3) := by decide +kernel
theorem dX6_tellsOrder_34 : decode cX6_tellsOrder 34 = .ok (.iload 4, 2) := by decide +kernel
theorem dX6_tellsOrder_36 : decode cX6_tellsOrder 36 = .ok (.iload 6, 2) := by decide +kernel
theorem dX6_tellsOrder_38 : decode cX6_tellsOrder 38 = .ok (.ishr, 1) := by decide +kernel
theorem dX6_tellsOrder_39 : decode cX6_tellsOrder 39 = .ok (.iconst 1, 1) := by decide +kernel
theorem dX6_tellsOrder_40 : decode cX6_tellsOrder 40 = .ok (.iand, 1) := by decide +kernel
theorem dX6_tellsOrder_41 : decode cX6_tellsOrder 41 = .ok (.iconst 1, 1) := by decide +kernel
theorem dX6_tellsOrder_42 : decode cX6_tellsOrder 42 = .ok (.if_icmp .ne 5, 3) := by decide +kernel
theorem dX6_tellsOrder_45 : decode cX6_tellsOrder 45 = .ok (.iconst 0, 1) := by decide +kernel
theorem dX6_tellsOrder_46 : decode cX6_tellsOrder 46 = .ok (.ireturn, 1) := by decide +kernel
theorem dX6_tellsOrder_47 : decode cX6_tellsOrder 47 = .ok (.iload 4, 2) := by decide +kernel
theorem dX6_tellsOrder_49 : decode cX6_tellsOrder 49 = .ok (.iconst 1, 1) := by decide +kernel
theorem dX6_tellsOrder_50 : decode cX6_tellsOrder 50 = .ok (.iload 6, 2) := by decide +kernel
theorem dX6_tellsOrder_52 : decode cX6_tellsOrder 52 = .ok (.ishl, 1) := by decide +kernel
theorem dX6_tellsOrder_53 : decode cX6_tellsOrder 53 = .ok (.ior, 1) := by decide +kernel
theorem dX6_tellsOrder_54 : decode cX6_tellsOrder 54 = .ok (.istore 4, 2) := by decide +kernel
theorem dX6_tellsOrder_56 : decode cX6_tellsOrder 56 = .ok (.iinc 5 1, 3) := by decide +kernel
theorem dX6_tellsOrder_59 : decode cX6_tellsOrder 59 = .ok (.goto (-53), 3) := by decide +kernel
theorem dX6_tellsOrder_62 : decode cX6_tellsOrder 62 = .ok (.iconst 1, 1) := by decide +kernel
theorem dX6_tellsOrder_63 : decode cX6_tellsOrder 63 = .ok (.ireturn, 1) := by decide +kernel
theorem dX6_allWithin_0 : decode cX6_allWithin 0 = .ok (.iconst 0, 1) := by decide +kernel
theorem dX6_allWithin_1 : decode cX6_allWithin 1 = .ok (.istore 5, 2) := by decide +kernel
theorem dX6_allWithin_3 : decode cX6_allWithin 3 = .ok (.iload 5, 2) := by decide +kernel
theorem dX6_allWithin_5 : decode cX6_allWithin 5 = .ok (.iload_n 3, 1) := by decide +kernel
theorem dX6_allWithin_6 : decode cX6_allWithin 6 = .ok (.if_icmp .ge 37, 3) := by decide +kernel
theorem dX6_allWithin_9 : decode cX6_allWithin 9 = .ok (.aload_n 0, 1) := by decide +kernel
theorem dX6_allWithin_10 : decode cX6_allWithin 10 = .ok (.iload_n 1, 1) := by decide +kernel
theorem dX6_allWithin_11 : decode cX6_allWithin 11 = .ok (.iload_n 2, 1) := by decide +kernel
theorem dX6_allWithin_12 : decode cX6_allWithin 12 = .ok (.iload 5, 2) := by decide +kernel
theorem dX6_allWithin_14 : decode cX6_allWithin 14 = .ok (.iadd, 1) := by decide +kernel
theorem dX6_allWithin_15 : decode cX6_allWithin 15 = .ok (.invokevirtual 47, 3) := by decide +kernel
theorem dX6_allWithin_18 : decode cX6_allWithin 18 = .ok (.istore 6, 2) := by decide +kernel
theorem dX6_allWithin_20 : decode cX6_allWithin 20 = .ok (.iload 6, 2) := by decide +kernel
theorem dX6_allWithin_22 : decode cX6_allWithin 22 = .ok (.iload 4, 2) := by decide +kernel
theorem dX6_allWithin_24 : decode cX6_allWithin 24 = .ok (.ineg, 1) := by decide +kernel
theorem dX6_allWithin_25 : decode cX6_allWithin 25 = .ok (.if_icmp .lt 10, 3) := by decide +kernel
theorem dX6_allWithin_28 : decode cX6_allWithin 28 = .ok (.iload 6, 2) := by decide +kernel
theorem dX6_allWithin_30 : decode cX6_allWithin 30 = .ok (.iload 4, 2) := by decide +kernel
theorem dX6_allWithin_32 : decode cX6_allWithin 32 = .ok (.if_icmp .le 5, 3) := by decide +kernel
theorem dX6_allWithin_35 : decode cX6_allWithin 35 = .ok (.iconst 0, 1) := by decide +kernel
theorem dX6_allWithin_36 : decode cX6_allWithin 36 = .ok (.ireturn, 1) := by decide +kernel
theorem dX6_allWithin_37 : decode cX6_allWithin 37 = .ok (.iinc 5 1, 3) := by decide +kernel
theorem dX6_allWithin_40 : decode cX6_allWithin 40 = .ok (.goto (-37), 3) := by decide +kernel
theorem dX6_allWithin_43 : decode cX6_allWithin 43 = .ok (.iconst 1, 1) := by decide +kernel
theorem dX6_allWithin_44 : decode cX6_allWithin 44 = .ok (.ireturn, 1) := by decide +kernel
theorem dX7_init_0 : decode cX7_init 0 = .ok (.aload_n 0, 1) := by decide +kernel
theorem dX7_init_1 : decode cX7_init 1 = .ok (.invokespecial 3, 3) := by decide +kernel
theorem dX7_init_4 : decode cX7_init 4 = .ok (.aload_n 0, 1) := by decide +kernel
theorem dX7_init_5 : decode cX7_init 5 = .ok (.sipush 500, 3) := by decide +kernel
theorem dX7_init_8 : decode cX7_init 8 = .ok (.newarray .byte, 2) := by decide +kernel
theorem dX7_init_10 : decode cX7_init 10 = .ok (.putfield 9, 3) := by decide +kernel
theorem dX7_init_13 : decode cX7_init 13 = .ok (.aload_n 0, 1) := by decide +kernel
theorem dX7_init_14 : decode cX7_init 14 = .ok (.iconst 0, 1) := by decide +kernel
theorem dX7_init_15 : decode cX7_init 15 = .ok (.putfield 15, 3) := by decide +kernel
theorem dX7_init_18 : decode cX7_init 18 = .ok (.aload_n 0, 1) := by decide +kernel
theorem dX7_init_19 : decode cX7_init 19 = .ok (.iconst 0, 1) := by decide +kernel
theorem dX7_init_20 : decode cX7_init 20 = .ok (.putfield 19, 3) := by decide +kernel
theorem dX7_init_23 : decode cX7_init 23 = .ok (.aload_n 0, 1) := by decide +kernel
theorem dX7_init_24 : decode cX7_init 24 = .ok (.iconst 0, 1) := by decide +kernel
theorem dX7_init_25 : decode cX7_init 25 = .ok (.putfield 22, 3) := by decide +kernel
theorem dX7_init_28 : decode cX7_init 28 = .ok (.aload_n 0, 1) := by decide +kernel
theorem dX7_init_29 : decode cX7_init 29 = .ok (.iconst 0, 1) := by decide +kernel
theorem dX7_init_30 : decode cX7_init 30 = .ok (.putfield 25, 3) := by decide +kernel
theorem dX7_init_33 : decode cX7_init 33 = .ok (.return_, 1) := by decide +kernel
theorem dX7_hasRoom_0 : decode cX7_hasRoom 0 = .ok (.iload_n 1, 1) := by decide +kernel
theorem dX7_hasRoom_1 : decode cX7_hasRoom 1 = .ok (.sipush 500, 3) := by decide +kernel
theorem dX7_hasRoom_4 : decode cX7_hasRoom 4 = .ok (.aload_n 0, 1) := by decide +kernel
theorem dX7_hasRoom_5 : decode cX7_hasRoom 5 = .ok (.getfield 15, 3) := by decide +kernel
theorem dX7_hasRoom_8 : decode cX7_hasRoom 8 = .ok (.isub, 1) := by decide +kernel
theorem dX7_hasRoom_9 : decode cX7_hasRoom 9 = .ok (.if_icmp .gt 7, 3) := by decide +kernel
theorem dX7_hasRoom_12 : decode cX7_hasRoom 12 = .ok (.iconst 1, 1) := by decide +kernel
theorem dX7_hasRoom_13 : decode cX7_hasRoom 13 = .ok (.goto 4, 3) := by decide +kernel
theorem dX7_hasRoom_16 : decode cX7_hasRoom 16 = .ok (.iconst 0, 1) := by decide +kernel
theorem dX7_hasRoom_17 : decode cX7_hasRoom 17 = .ok (.ireturn, 1) := by decide +kernel
theorem dX7_append_0 : decode cX7_append 0 = .ok (.iload_n 3, 1) := by decide +kernel
theorem dX7_append_1 : decode cX7_append 1 = .ok (.iconst 1, 1) := by decide +kernel
theorem dX7_append_2 : decode cX7_append 2 = .ok (.isub, 1) := by decide +kernel
theorem dX7_append_3 : decode cX7_append 3 = .ok (.istore 4, 2) := by decide +kernel
theorem dX7_append_5 : decode cX7_append 5 = .ok (.iload 4, 2) := by decide +kernel
theorem dX7_append_7 : decode cX7_append 7 = .ok (.ifCond .lt 47, 3) := by decide +kernel
theorem dX7_append_10 : decode cX7_append 10 = .ok (.aload_n 0, 1) := by decide +kernel
theorem dX7_append_11 : decode cX7_append 11 = .ok (.getfield 15, 3) := by decide +kernel
theorem dX7_append_14 : decode cX7_append 14 = .ok (.sipush 500, 3) := by decide +kernel
theorem dX7_append_17 : decode cX7_append 17 = .ok (.if_icmp .ge 37, 3) := by decide +kernel
theorem dX7_append_20 : decode cX7_append 20 = .ok (.aload_n 0, 1) := by decide +kernel
theorem dX7_append_21 : decode cX7_append 21 = .ok (.getfield 9, 3) := by decide +kernel
theorem dX7_append_24 : decode cX7_append 24 = .ok (.aload_n 0, 1) := by decide +kernel
theorem dX7_append_25 : decode cX7_append 25 = .ok (.getfield 15, 3) := by decide +kernel
theorem dX7_append_28 : decode cX7_append 28 = .ok (.lload_n 1, 1) := by decide +kernel
theorem dX7_append_29 : decode cX7_append 29 = .ok (.bipush 8, 2) := by decide +kernel
theorem dX7_append_31 : decode cX7_append 31 = .ok (.iload 4, 2) := by decide +kernel
theorem dX7_append_33 : decode cX7_append 33 = .ok (.imul, 1) := by decide +kernel
theorem dX7_append_34 : decode cX7_append 34 = .ok (.lshr, 1) := by decide +kernel
theorem dX7_append_35 : decode cX7_append 35 = .ok (.l2i, 1) := by decide +kernel
theorem dX7_append_36 : decode cX7_append 36 = .ok (.i2b, 1) := by decide +kernel
theorem dX7_append_37 : decode cX7_append 37 = .ok (.bastore, 1) := by decide +kernel
theorem dX7_append_38 : decode cX7_append 38 = .ok (.aload_n 0, 1) := by decide +kernel
theorem dX7_append_39 : decode cX7_append 39 = .ok (.dup, 1) := by decide +kernel
theorem dX7_append_40 : decode cX7_append 40 = .ok (.getfield 15, 3) := by decide +kernel
theorem dX7_append_43 : decode cX7_append 43 = .ok (.iconst 1, 1) := by decide +kernel
theorem dX7_append_44 : decode cX7_append 44 = .ok (.iadd, 1) := by decide +kernel
theorem dX7_append_45 : decode cX7_append 45 = .ok (.putfield 15, 3) := by decide +kernel
theorem dX7_append_48 : decode cX7_append 48 = .ok (.iinc 4 (-1), 3) := by decide +kernel
theorem dX7_append_51 : decode cX7_append 51 = .ok (.goto (-46), 3) := by decide +kernel
theorem dX7_append_54 : decode cX7_append 54 = .ok (.aload_n 0, 1) := by decide +kernel
theorem dX7_append_55 : decode cX7_append 55 = .ok (.getfield 15, 3) := by decide +kernel
theorem dX7_append_58 : decode cX7_append 58 = .ok (.ireturn, 1) := by decide +kernel
theorem dX7_empty_0 : decode cX7_empty 0 = .ok (.aload_n 0, 1) := by decide +kernel
theorem dX7_empty_1 : decode cX7_empty 1 = .ok (.iconst 0, 1) := by decide +kernel
theorem dX7_empty_2 : decode cX7_empty 2 = .ok (.putfield 15, 3) := by decide +kernel
theorem dX7_empty_5 : decode cX7_empty 5 = .ok (.return_, 1) := by decide +kernel
theorem dX7_tokenPlace_0 : decode cX7_tokenPlace 0 = .ok (.aload_n 0, 1) := by decide +kernel
theorem dX7_tokenPlace_1 : decode cX7_tokenPlace 1 = .ok (.getfield 19, 3) := by decide +kernel
theorem dX7_tokenPlace_4 : decode cX7_tokenPlace 4 = .ok (.ireturn, 1) := by decide +kernel
theorem dX7_toFirst_0 : decode cX7_toFirst 0 = .ok (.aload_n 0, 1) := by decide +kernel
theorem dX7_toFirst_1 : decode cX7_toFirst 1 = .ok (.iconst 0, 1) := by decide +kernel
theorem dX7_toFirst_2 : decode cX7_toFirst 2 = .ok (.putfield 22, 3) := by decide +kernel
theorem dX7_toFirst_5 : decode cX7_toFirst 5 = .ok (.aload_n 0, 1) := by decide +kernel
theorem dX7_toFirst_6 : decode cX7_toFirst 6 = .ok (.invokevirtual 28, 3) := by decide +kernel
theorem dX7_toFirst_9 : decode cX7_toFirst 9 = .ok (.return_, 1) := by decide +kernel
theorem dX7_toNext_0 : decode cX7_toNext 0 = .ok (.aload_n 0, 1) := by decide +kernel
theorem dX7_toNext_1 : decode cX7_toNext 1 = .ok (.aload_n 0, 1) := by decide +kernel
theorem dX7_toNext_2 : decode cX7_toNext 2 = .ok (.getfield 22, 3) := by decide +kernel
theorem dX7_toNext_5 : decode cX7_toNext 5 = .ok (.putfield 19, 3) := by decide +kernel
theorem dX7_toNext_8 : decode cX7_toNext 8 = .ok (.aload_n 0, 1) := by decide +kernel
theorem dX7_toNext_9 : decode cX7_toNext 9 = .ok (.getfield 19, 3) := by decide +kernel
theorem dX7_toNext_12 : decode cX7_toNext 12 = .ok (.aload_n 0, 1) := by decide +kernel
theorem dX7_toNext_13 : decode cX7_toNext 13 = .ok (.getfield 15, 3) := by decide +kernel
theorem dX7_toNext_16 : decode cX7_toNext 16 = .ok (.if_icmp .ge 44, 3) := by decide +kernel
theorem dX7_toNext_19 : decode cX7_toNext 19 = .ok (.aload_n 0, 1) := by decide +kernel
theorem dX7_toNext_20 : decode cX7_toNext 20 = .ok (.getfield 9, 3) := by decide +kernel
theorem dX7_toNext_23 : decode cX7_toNext 23 = .ok (.aload_n 0, 1) := by decide +kernel
theorem dX7_toNext_24 : decode cX7_toNext 24 = .ok (.getfield 19, 3) := by decide +kernel
theorem dX7_toNext_27 : decode cX7_toNext 27 = .ok (.baload, 1) := by decide +kernel
theorem dX7_toNext_28 : decode cX7_toNext 28 = .ok (.bipush 32, 2) := by decide +kernel
theorem dX7_toNext_30 : decode cX7_toNext 30 = .ok (.if_icmp .eq 17, 3) := by decide +kernel
theorem dX7_toNext_33 : decode cX7_toNext 33 = .ok (.aload_n 0, 1) := by decide +kernel
theorem dX7_toNext_34 : decode cX7_toNext 34 = .ok (.getfield 9, 3) := by decide +kernel
theorem dX7_toNext_37 : decode cX7_toNext 37 = .ok (.aload_n 0, 1) := by decide +kernel
theorem dX7_toNext_38 : decode cX7_toNext 38 = .ok (.getfield 19, 3) := by decide +kernel
theorem dX7_toNext_41 : decode cX7_toNext 41 = .ok (.baload, 1) := by decide +kernel
theorem dX7_toNext_42 : decode cX7_toNext 42 = .ok (.bipush 10, 2) := by decide +kernel
theorem dX7_toNext_44 : decode cX7_toNext 44 = .ok (.if_icmp .ne 16, 3) := by decide +kernel
theorem dX7_toNext_47 : decode cX7_toNext 47 = .ok (.aload_n 0, 1) := by decide +kernel
theorem dX7_toNext_48 : decode cX7_toNext 48 = .ok (.dup, 1) := by decide +kernel
theorem dX7_toNext_49 : decode cX7_toNext 49 = .ok (.getfield 19, 3) := by decide +kernel
theorem dX7_toNext_52 : decode cX7_toNext 52 = .ok (.iconst 1, 1) := by decide +kernel
theorem dX7_toNext_53 : decode cX7_toNext 53 = .ok (.iadd, 1) := by decide +kernel
theorem dX7_toNext_54 : decode cX7_toNext 54 = .ok (.putfield 19, 3) := by decide +kernel
theorem dX7_toNext_57 : decode cX7_toNext 57 = .ok (.goto (-49), 3) := by decide +kernel
theorem dX7_toNext_60 : decode cX7_toNext 60 = .ok (.aload_n 0, 1) := by decide +kernel
theorem dX7_toNext_61 : decode cX7_toNext 61 = .ok (.aload_n 0, 1) := by decide +kernel
theorem dX7_toNext_62 : decode cX7_toNext 62 = .ok (.getfield 19, 3) := by decide +kernel
theorem dX7_toNext_65 : decode cX7_toNext 65 = .ok (.aload_n 0, 1) := by decide +kernel
theorem dX7_toNext_66 : decode cX7_toNext 66 = .ok (.getfield 15, 3) := by decide +kernel
theorem dX7_toNext_69 : decode cX7_toNext 69 = .ok (.if_icmp .ge 18, 3) := by decide +kernel
theorem dX7_toNext_72 : decode cX7_toNext 72 = .ok (.aload_n 0, 1) := by decide +kernel
theorem dX7_toNext_73 : decode cX7_toNext 73 = .ok (.getfield 9, 3) := by decide +kernel
theorem dX7_toNext_76 : decode cX7_toNext 76 = .ok (.aload_n 0, 1) := by decide +kernel
theorem dX7_toNext_77 : decode cX7_toNext 77 = .ok (.getfield 19, 3) := by decide +kernel
theorem dX7_toNext_80 : decode cX7_toNext 80 = .ok (.baload, 1) := by decide +kernel
theorem dX7_toNext_81 : decode cX7_toNext 81 = .ok (.invokestatic 31, 3) := by decide +kernel
theorem dX7_toNext_84 : decode cX7_toNext 84 = .ok (.goto 4, 3) := by decide +kernel
theorem dX7_toNext_87 : decode cX7_toNext 87 = .ok (.iconst 0, 1) := by decide +kernel
theorem dX7_toNext_88 : decode cX7_toNext 88 = .ok (.putfield 25, 3) := by decide +kernel
theorem dX7_toNext_91 : decode cX7_toNext 91 = .ok (.aload_n 0, 1) := by decide +kernel
theorem dX7_toNext_92 : decode cX7_toNext 92 = .ok (.aload_n 0, 1) := by decide +kernel
theorem dX7_toNext_93 : decode cX7_toNext 93 = .ok (.getfield 19, 3) := by decide +kernel
theorem dX7_toNext_96 : decode cX7_toNext 96 = .ok (.aload_n 0, 1) := by decide +kernel
theorem dX7_toNext_97 : decode cX7_toNext 97 = .ok (.getfield 15, 3) := by decide +kernel
theorem dX7_toNext_100 : decode cX7_toNext 100 = .ok (.if_icmp .ge 12, 3) := by decide +kernel
theorem dX7_toNext_103 : decode cX7_toNext 103 = .ok (.aload_n 0, 1) := by decide +kernel
theorem dX7_toNext_104 : decode cX7_toNext 104 = .ok (.getfield 19, 3) := by decide +kernel
theorem dX7_toNext_107 : decode cX7_toNext 107 = .ok (.iconst 1, 1) := by decide +kernel
theorem dX7_toNext_108 : decode cX7_toNext 108 = .ok (.iadd, 1) := by decide +kernel
theorem dX7_toNext_109 : decode cX7_toNext 109 = .ok (.goto 7, 3) := by decide +kernel
theorem dX7_toNext_112 : decode cX7_toNext 112 = .ok (.aload_n 0, 1) := by decide +kernel
theorem dX7_toNext_113 : decode cX7_toNext 113 = .ok (.getfield 19, 3) := by decide +kernel
theorem dX7_toNext_116 : decode cX7_toNext 116 = .ok (.putfield 22, 3) := by decide +kernel
theorem dX7_toNext_119 : decode cX7_toNext 119 = .ok (.aload_n 0, 1) := by decide +kernel
theorem dX7_toNext_120 : decode cX7_toNext 120 = .ok (.getfield 22, 3) := by decide +kernel
theorem dX7_toNext_123 : decode cX7_toNext 123 = .ok (.aload_n 0, 1) := by decide +kernel
theorem dX7_toNext_124 : decode cX7_toNext 124 = .ok (.getfield 15, 3) := by decide +kernel
theorem dX7_toNext_127 : decode cX7_toNext 127 = .ok (.if_icmp .ge 51, 3) := by decide +kernel
theorem dX7_toNext_130 : decode cX7_toNext 130 = .ok (.aload_n 0, 1) := by decide +kernel
theorem dX7_toNext_131 : decode cX7_toNext 131 = .ok (.getfield 25, 3) := by decide +kernel
theorem dX7_toNext_134 : decode cX7_toNext 134 = .ok (.iconst 1, 1) := by decide +kernel
theorem dX7_toNext_135 : decode cX7_toNext 135 = .ok (.if_icmp .eq 11, 3) := by decide +kernel
theorem dX7_toNext_138 : decode cX7_toNext 138 = .ok (.aload_n 0, 1) := by decide +kernel
theorem dX7_toNext_139 : decode cX7_toNext 139 = .ok (.getfield 25, 3) := by decide +kernel
theorem dX7_toNext_142 : decode cX7_toNext 142 = .ok (.iconst 2, 1) := by decide +kernel
theorem dX7_toNext_143 : decode cX7_toNext 143 = .ok (.if_icmp .ne 35, 3) := by decide +kernel
theorem dX7_toNext_146 : decode cX7_toNext 146 = .ok (.aload_n 0, 1) := by decide +kernel
theorem dX7_toNext_147 : decode cX7_toNext 147 = .ok (.getfield 9, 3) := by decide +kernel
theorem dX7_toNext_150 : decode cX7_toNext 150 = .ok (.aload_n 0, 1) := by decide +kernel
theorem dX7_toNext_151 : decode cX7_toNext 151 = .ok (.getfield 22, 3) := by decide +kernel
theorem dX7_toNext_154 : decode cX7_toNext 154 = .ok (.baload, 1) := by decide +kernel
theorem dX7_toNext_155 : decode cX7_toNext 155 = .ok (.invokestatic 31, 3) := by decide +kernel
theorem dX7_toNext_158 : decode cX7_toNext 158 = .ok (.aload_n 0, 1) := by decide +kernel
theorem dX7_toNext_159 : decode cX7_toNext 159 = .ok (.getfield 25, 3) := by decide +kernel
theorem dX7_toNext_162 : decode cX7_toNext 162 = .ok (.if_icmp .ne 16, 3) := by decide +kernel
theorem dX7_toNext_165 : decode cX7_toNext 165 = .ok (.aload_n 0, 1) := by decide +kernel
theorem dX7_toNext_166 : decode cX7_toNext 166 = .ok (.dup, 1) := by decide +kernel
theorem dX7_toNext_167 : decode cX7_toNext 167 = .ok (.getfield 22, 3) := by decide +kernel
theorem dX7_toNext_170 : decode cX7_toNext 170 = .ok (.iconst 1, 1) := by decide +kernel
theorem dX7_toNext_171 : decode cX7_toNext 171 = .ok (.iadd, 1) := by decide +kernel
theorem dX7_toNext_172 : decode cX7_toNext 172 = .ok (.putfield 22, 3) := by decide +kernel
theorem dX7_toNext_175 : decode cX7_toNext 175 = .ok (.goto (-56), 3) := by decide +kernel
theorem dX7_toNext_178 : decode cX7_toNext 178 = .ok (.aload_n 0, 1) := by decide +kernel
theorem dX7_toNext_179 : decode cX7_toNext 179 = .ok (.getfield 25, 3) := by decide +kernel
theorem dX7_toNext_182 : decode cX7_toNext 182 = .ok (.iconst 2, 1) := by decide +kernel
theorem dX7_toNext_183 : decode cX7_toNext 183 = .ok (.if_icmp .ne 21, 3) := by decide +kernel
theorem dX7_toNext_186 : decode cX7_toNext 186 = .ok (.aload_n 0, 1) := by decide +kernel
theorem dX7_toNext_187 : decode cX7_toNext 187 = .ok (.getfield 22, 3) := by decide +kernel
theorem dX7_toNext_190 : decode cX7_toNext 190 = .ok (.aload_n 0, 1) := by decide +kernel
theorem dX7_toNext_191 : decode cX7_toNext 191 = .ok (.getfield 19, 3) := by decide +kernel
theorem dX7_toNext_194 : decode cX7_toNext 194 = .ok (.isub, 1) := by decide +kernel
theorem dX7_toNext_195 : decode cX7_toNext 195 = .ok (.iconst 2, 1) := by decide +kernel
theorem dX7_toNext_196 : decode cX7_toNext 196 = .ok (.if_icmp .le 8, 3) := by decide +kernel
theorem dX7_toNext_199 : decode cX7_toNext 199 = .ok (.aload_n 0, 1) := by decide +kernel
theorem dX7_toNext_200 : decode cX7_toNext 200 = .ok (.iconst 4, 1) := by decide +kernel
theorem dX7_toNext_201 : decode cX7_toNext 201 = .ok (.putfield 25, 3) := by decide +kernel
theorem dX7_toNext_204 : decode cX7_toNext 204 = .ok (.return_, 1) := by decide +kernel
theorem dX7_sortOf_0 : decode cX7_sortOf 0 = .ok (.iload_n 0, 1) := by decide +kernel
theorem dX7_sortOf_1 : decode cX7_sortOf 1 = .ok (.bipush 97, 2) := by decide +kernel
theorem dX7_sortOf_3 : decode cX7_sortOf 3 = .ok (.if_icmp .lt 11, 3) := by decide +kernel
theorem dX7_sortOf_6 : decode cX7_sortOf 6 = .ok (.iload_n 0, 1) := by decide +kernel
theorem dX7_sortOf_7 : decode cX7_sortOf 7 = .ok (.bipush 122, 2) := by decide +kernel
theorem dX7_sortOf_9 : decode cX7_sortOf 9 = .ok (.if_icmp .gt 5, 3) := by decide +kernel
theorem dX7_sortOf_12 : decode cX7_sortOf 12 = .ok (.iconst 1, 1) := by decide +kernel
theorem dX7_sortOf_13 : decode cX7_sortOf 13 = .ok (.ireturn, 1) := by decide +kernel
theorem dX7_sortOf_14 : decode cX7_sortOf 14 = .ok (.iload_n 0, 1) := by decide +kernel
theorem dX7_sortOf_15 : decode cX7_sortOf 15 = .ok (.bipush 48, 2) := by decide +kernel
theorem dX7_sortOf_17 : decode cX7_sortOf 17 = .ok (.if_icmp .lt 11, 3) := by decide +kernel
theorem dX7_sortOf_20 : decode cX7_sortOf 20 = .ok (.iload_n 0, 1) := by decide +kernel
theorem dX7_sortOf_21 : decode cX7_sortOf 21 = .ok (.bipush 57, 2) := by decide +kernel
theorem dX7_sortOf_23 : decode cX7_sortOf 23 = .ok (.if_icmp .gt 5, 3) := by decide +kernel
theorem dX7_sortOf_26 : decode cX7_sortOf 26 = .ok (.iconst 2, 1) := by decide +kernel
theorem dX7_sortOf_27 : decode cX7_sortOf 27 = .ok (.ireturn, 1) := by decide +kernel
theorem dX7_sortOf_28 : decode cX7_sortOf 28 = .ok (.iload_n 0, 1) := by decide +kernel
theorem dX7_sortOf_29 : decode cX7_sortOf 29 = .ok (.bipush 59, 2) := by decide +kernel
theorem dX7_sortOf_31 : decode cX7_sortOf 31 = .ok (.if_icmp .ne 7, 3) := by decide +kernel
theorem dX7_sortOf_34 : decode cX7_sortOf 34 = .ok (.iconst 3, 1) := by decide +kernel
theorem dX7_sortOf_35 : decode cX7_sortOf 35 = .ok (.goto 4, 3) := by decide +kernel
theorem dX7_sortOf_38 : decode cX7_sortOf 38 = .ok (.iconst 4, 1) := by decide +kernel
theorem dX7_sortOf_39 : decode cX7_sortOf 39 = .ok (.ireturn, 1) := by decide +kernel
theorem dX7_spells_0 : decode cX7_spells 0 = .ok (.aload_n 1, 1) := by decide +kernel
theorem dX7_spells_1 : decode cX7_spells 1 = .ok (.invokevirtual 35, 3) := by decide +kernel
theorem dX7_spells_4 : decode cX7_spells 4 = .ok (.aload_n 0, 1) := by decide +kernel
theorem dX7_spells_5 : decode cX7_spells 5 = .ok (.getfield 22, 3) := by decide +kernel
theorem dX7_spells_8 : decode cX7_spells 8 = .ok (.aload_n 0, 1) := by decide +kernel
theorem dX7_spells_9 : decode cX7_spells 9 = .ok (.getfield 19, 3) := by decide +kernel
theorem dX7_spells_12 : decode cX7_spells 12 = .ok (.isub, 1) := by decide +kernel
theorem dX7_spells_13 : decode cX7_spells 13 = .ok (.if_icmp .eq 5, 3) := by decide +kernel
theorem dX7_spells_16 : decode cX7_spells 16 = .ok (.iconst 0, 1) := by decide +kernel
theorem dX7_spells_17 : decode cX7_spells 17 = .ok (.ireturn, 1) := by decide +kernel
theorem dX7_spells_18 : decode cX7_spells 18 = .ok (.iconst 0, 1) := by decide +kernel
theorem dX7_spells_19 : decode cX7_spells 19 = .ok (.istore_n 2, 1) := by decide +kernel
theorem dX7_spells_20 : decode cX7_spells 20 = .ok (.iload_n 2, 1) := by decide +kernel
theorem dX7_spells_21 : decode cX7_spells 21 = .ok (.aload_n 1, 1) := by decide +kernel
theorem dX7_spells_22 : decode cX7_spells 22 = .ok (.invokevirtual 35, 3) := by decide +kernel
theorem dX7_spells_25 : decode cX7_spells 25 = .ok (.if_icmp .ge 30, 3) := by decide +kernel
theorem dX7_spells_28 : decode cX7_spells 28 = .ok (.aload_n 1, 1) := by decide +kernel
theorem dX7_spells_29 : decode cX7_spells 29 = .ok (.iload_n 2, 1) := by decide +kernel
theorem dX7_spells_30 : decode cX7_spells 30 = .ok (.invokevirtual 41, 3) := by decide +kernel
theorem dX7_spells_33 : decode cX7_spells 33 = .ok (.aload_n 0, 1) := by decide +kernel
theorem dX7_spells_34 : decode cX7_spells 34 = .ok (.getfield 9, 3) := by decide +kernel
theorem dX7_spells_37 : decode cX7_spells 37 = .ok (.aload_n 0, 1) := by decide +kernel
theorem dX7_spells_38 : decode cX7_spells 38 = .ok (.getfield 19, 3) := by decide +kernel
theorem dX7_spells_41 : decode cX7_spells 41 = .ok (.iload_n 2, 1) := by decide +kernel
theorem dX7_spells_42 : decode cX7_spells 42 = .ok (.iadd, 1) := by decide +kernel
theorem dX7_spells_43 : decode cX7_spells 43 = .ok (.baload, 1) := by decide +kernel
theorem dX7_spells_44 : decode cX7_spells 44 = .ok (.if_icmp .eq 5, 3) := by decide +kernel
theorem dX7_spells_47 : decode cX7_spells 47 = .ok (.iconst 0, 1) := by decide +kernel
theorem dX7_spells_48 : decode cX7_spells 48 = .ok (.ireturn, 1) := by decide +kernel
theorem dX7_spells_49 : decode cX7_spells 49 = .ok (.iinc 2 1, 3) := by decide +kernel
theorem dX7_spells_52 : decode cX7_spells 52 = .ok (.goto (-32), 3) := by decide +kernel
theorem dX7_spells_55 : decode cX7_spells 55 = .ok (.iconst 1, 1) := by decide +kernel
theorem dX7_spells_56 : decode cX7_spells 56 = .ok (.ireturn, 1) := by decide +kernel
theorem dX7_spelling_0 : decode cX7_spelling 0 = .ok (.iload_n 0, 1) := by decide +kernel
theorem dX7_spelling_1 : decode cX7_spelling 1 = .ok (.tableswitch 106 0 12 #[67, 70, 73, 76, 79, 82, 85, 88, 91, 94, 97, 100, 103], 67) := by decide +kernel
theorem dX7_spelling_68 : decode cX7_spelling 68 = .ok (.ldc 45, 2) := by decide +kernel
theorem dX7_spelling_70 : decode cX7_spelling 70 = .ok (.areturn, 1) := by decide +kernel
theorem dX7_spelling_71 : decode cX7_spelling 71 = .ok (.ldc 47, 2) := by decide +kernel
theorem dX7_spelling_73 : decode cX7_spelling 73 = .ok (.areturn, 1) := by decide +kernel
theorem dX7_spelling_74 : decode cX7_spelling 74 = .ok (.ldc 49, 2) := by decide +kernel
theorem dX7_spelling_76 : decode cX7_spelling 76 = .ok (.areturn, 1) := by decide +kernel
theorem dX7_spelling_77 : decode cX7_spelling 77 = .ok (.ldc 51, 2) := by decide +kernel
theorem dX7_spelling_79 : decode cX7_spelling 79 = .ok (.areturn, 1) := by decide +kernel
theorem dX7_spelling_80 : decode cX7_spelling 80 = .ok (.ldc 53, 2) := by decide +kernel
theorem dX7_spelling_82 : decode cX7_spelling 82 = .ok (.areturn, 1) := by decide +kernel
theorem dX7_spelling_83 : decode cX7_spelling 83 = .ok (.ldc 55, 2) := by decide +kernel
theorem dX7_spelling_85 : decode cX7_spelling 85 = .ok (.areturn, 1) := by decide +kernel
theorem dX7_spelling_86 : decode cX7_spelling 86 = .ok (.ldc 57, 2) := by decide +kernel
theorem dX7_spelling_88 : decode cX7_spelling 88 = .ok (.areturn, 1) := by decide +kernel
theorem dX7_spelling_89 : decode cX7_spelling 89 = .ok (.ldc 59, 2) := by decide +kernel
theorem dX7_spelling_91 : decode cX7_spelling 91 = .ok (.areturn, 1) := by decide +kernel
theorem dX7_spelling_92 : decode cX7_spelling 92 = .ok (.ldc 61, 2) := by decide +kernel
theorem dX7_spelling_94 : decode cX7_spelling 94 = .ok (.areturn, 1) := by decide +kernel
theorem dX7_spelling_95 : decode cX7_spelling 95 = .ok (.ldc 63, 2) := by decide +kernel
theorem dX7_spelling_97 : decode cX7_spelling 97 = .ok (.areturn, 1) := by decide +kernel
theorem dX7_spelling_98 : decode cX7_spelling 98 = .ok (.ldc 65, 2) := by decide +kernel
theorem dX7_spelling_100 : decode cX7_spelling 100 = .ok (.areturn, 1) := by decide +kernel
theorem dX7_spelling_101 : decode cX7_spelling 101 = .ok (.ldc 67, 2) := by decide +kernel
theorem dX7_spelling_103 : decode cX7_spelling 103 = .ok (.areturn, 1) := by decide +kernel
theorem dX7_spelling_104 : decode cX7_spelling 104 = .ok (.ldc 69, 2) := by decide +kernel
theorem dX7_spelling_106 : decode cX7_spelling 106 = .ok (.areturn, 1) := by decide +kernel
theorem dX7_spelling_107 : decode cX7_spelling 107 = .ok (.ldc 71, 2) := by decide +kernel
theorem dX7_spelling_109 : decode cX7_spelling 109 = .ok (.areturn, 1) := by decide +kernel
theorem dX7_atEnd_0 : decode cX7_atEnd 0 = .ok (.aload_n 0, 1) := by decide +kernel
theorem dX7_atEnd_1 : decode cX7_atEnd 1 = .ok (.getfield 25, 3) := by decide +kernel
theorem dX7_atEnd_4 : decode cX7_atEnd 4 = .ok (.ifCond .ne 7, 3) := by decide +kernel
theorem dX7_atEnd_7 : decode cX7_atEnd 7 = .ok (.iconst 1, 1) := by decide +kernel
theorem dX7_atEnd_8 : decode cX7_atEnd 8 = .ok (.goto 4, 3) := by decide +kernel
theorem dX7_atEnd_11 : decode cX7_atEnd 11 = .ok (.iconst 0, 1) := by decide +kernel
theorem dX7_atEnd_12 : decode cX7_atEnd 12 = .ok (.ireturn, 1) := by decide +kernel
theorem dX7_atWord_0 : decode cX7_atWord 0 = .ok (.aload_n 0, 1) := by decide +kernel
theorem dX7_atWord_1 : decode cX7_atWord 1 = .ok (.getfield 25, 3) := by decide +kernel
theorem dX7_atWord_4 : decode cX7_atWord 4 = .ok (.iconst 1, 1) := by decide +kernel
theorem dX7_atWord_5 : decode cX7_atWord 5 = .ok (.if_icmp .ne 18, 3) := by decide +kernel
theorem dX7_atWord_8 : decode cX7_atWord 8 = .ok (.aload_n 0, 1) := by decide +kernel
theorem dX7_atWord_9 : decode cX7_atWord 9 = .ok (.iload_n 1, 1) := by decide +kernel
theorem dX7_atWord_10 : decode cX7_atWord 10 = .ok (.invokestatic 73, 3) := by decide +kernel
theorem dX7_atWord_13 : decode cX7_atWord 13 = .ok (.invokevirtual 77, 3) := by decide +kernel
theorem dX7_atWord_16 : decode cX7_atWord 16 = .ok (.ifCond .eq 7, 3) := by decide +kernel
theorem dX7_atWord_19 : decode cX7_atWord 19 = .ok (.iconst 1, 1) := by decide +kernel
theorem dX7_atWord_20 : decode cX7_atWord 20 = .ok (.goto 4, 3) := by decide +kernel
theorem dX7_atWord_23 : decode cX7_atWord 23 = .ok (.iconst 0, 1) := by decide +kernel
theorem dX7_atWord_24 : decode cX7_atWord 24 = .ok (.ireturn, 1) := by decide +kernel
theorem dX7_actHere_0 : decode cX7_actHere 0 = .ok (.iconst 0, 1) := by decide +kernel
theorem dX7_actHere_1 : decode cX7_actHere 1 = .ok (.istore_n 1, 1) := by decide +kernel
theorem dX7_actHere_2 : decode cX7_actHere 2 = .ok (.iload_n 1, 1) := by decide +kernel
theorem dX7_actHere_3 : decode cX7_actHere 3 = .ok (.bipush 9, 2) := by decide +kernel
theorem dX7_actHere_5 : decode cX7_actHere 5 = .ok (.if_icmp .gt 19, 3) := by decide +kernel
theorem dX7_actHere_8 : decode cX7_actHere 8 = .ok (.aload_n 0, 1) := by decide +kernel
theorem dX7_actHere_9 : decode cX7_actHere 9 = .ok (.iload_n 1, 1) := by decide +kernel
theorem dX7_actHere_10 : decode cX7_actHere 10 = .ok (.invokevirtual 81, 3) := by decide +kernel
theorem dX7_actHere_13 : decode cX7_actHere 13 = .ok (.ifCond .eq 5, 3) := by decide +kernel
theorem dX7_actHere_16 : decode cX7_actHere 16 = .ok (.iload_n 1, 1) := by decide +kernel
theorem dX7_actHere_17 : decode cX7_actHere 17 = .ok (.ireturn, 1) := by decide +kernel
theorem dX7_actHere_18 : decode cX7_actHere 18 = .ok (.iinc 1 1, 3) := by decide +kernel
theorem dX7_actHere_21 : decode cX7_actHere 21 = .ok (.goto (-19), 3) := by decide +kernel
theorem dX7_actHere_24 : decode cX7_actHere 24 = .ok (.iconst (-1), 1) := by decide +kernel
theorem dX7_actHere_25 : decode cX7_actHere 25 = .ok (.ireturn, 1) := by decide +kernel
theorem dX7_atNumber_0 : decode cX7_atNumber 0 = .ok (.aload_n 0, 1) := by decide +kernel
theorem dX7_atNumber_1 : decode cX7_atNumber 1 = .ok (.getfield 25, 3) := by decide +kernel
theorem dX7_atNumber_4 : decode cX7_atNumber 4 = .ok (.iconst 2, 1) := by decide +kernel
theorem dX7_atNumber_5 : decode cX7_atNumber 5 = .ok (.if_icmp .ne 7, 3) := by decide +kernel
theorem dX7_atNumber_8 : decode cX7_atNumber 8 = .ok (.iconst 1, 1) := by decide +kernel
theorem dX7_atNumber_9 : decode cX7_atNumber 9 = .ok (.goto 4, 3) := by decide +kernel
theorem dX7_atNumber_12 : decode cX7_atNumber 12 = .ok (.iconst 0, 1) := by decide +kernel
theorem dX7_atNumber_13 : decode cX7_atNumber 13 = .ok (.ireturn, 1) := by decide +kernel
theorem dX7_numberHere_0 : decode cX7_numberHere 0 = .ok (.iconst 0, 1) := by decide +kernel
theorem dX7_numberHere_1 : decode cX7_numberHere 1 = .ok (.istore_n 1, 1) := by decide +kernel
theorem dX7_numberHere_2 : decode cX7_numberHere 2 = .ok (.aload_n 0, 1) := by decide +kernel
theorem dX7_numberHere_3 : decode cX7_numberHere 3 = .ok (.getfield 19, 3) := by decide +kernel
theorem dX7_numberHere_6 : decode cX7_numberHere 6 = .ok (.istore_n 2, 1) := by decide +kernel
theorem dX7_numberHere_7 : decode cX7_numberHere 7 = .ok (.iload_n 2, 1) := by decide +kernel
theorem dX7_numberHere_8 : decode cX7_numberHere 8 = .ok (.aload_n 0, 1) := by decide +kernel
theorem dX7_numberHere_9 : decode cX7_numberHere 9 = .ok (.getfield 22, 3) := by decide +kernel
theorem dX7_numberHere_12 : decode cX7_numberHere 12 = .ok (.if_icmp .ge 32, 3) := by decide +kernel
theorem dX7_numberHere_15 : decode cX7_numberHere 15 = .ok (.aload_n 0, 1) := by decide +kernel
theorem dX7_numberHere_16 : decode cX7_numberHere 16 = .ok (.getfield 25, 3) := by decide +kernel
theorem dX7_numberHere_19 : decode cX7_numberHere 19 = .ok (.iconst 2, 1) := by decide +kernel
theorem dX7_numberHere_20 : decode cX7_numberHere 20 = .ok (.if_icmp .ne 24, 3) := by decide +kernel
theorem dX7_numberHere_23 : decode cX7_numberHere 23 = .ok (.iload_n 1, 1) := by decide +kernel
theorem dX7_numberHere_24 : decode cX7_numberHere 24 = .ok (.bipush 10, 2) := by decide +kernel
theorem dX7_numberHere_26 : decode cX7_numberHere 26 = .ok (.imul, 1) := by decide +kernel
theorem dX7_numberHere_27 : decode cX7_numberHere 27 = .ok (.aload_n 0, 1) := by decide +kernel
theorem dX7_numberHere_28 : decode cX7_numberHere 28 = .ok (.getfield 9, 3) := by decide +kernel
theorem dX7_numberHere_31 : decode cX7_numberHere 31 = .ok (.iload_n 2, 1) := by decide +kernel
theorem dX7_numberHere_32 : decode cX7_numberHere 32 = .ok (.baload, 1) := by decide +kernel
theorem dX7_numberHere_33 : decode cX7_numberHere 33 = .ok (.iadd, 1) := by decide +kernel
theorem dX7_numberHere_34 : decode cX7_numberHere 34 = .ok (.bipush 48, 2) := by decide +kernel
theorem dX7_numberHere_36 : decode cX7_numberHere 36 = .ok (.isub, 1) := by decide +kernel
theorem dX7_numberHere_37 : decode cX7_numberHere 37 = .ok (.istore_n 1, 1) := by decide +kernel
theorem dX7_numberHere_38 : decode cX7_numberHere 38 = .ok (.iinc 2 1, 3) := by decide +kernel
theorem dX7_numberHere_41 : decode cX7_numberHere 41 = .ok (.goto (-34), 3) := by decide +kernel
theorem dX7_numberHere_44 : decode cX7_numberHere 44 = .ok (.iload_n 1, 1) := by decide +kernel
theorem dX7_numberHere_45 : decode cX7_numberHere 45 = .ok (.ireturn, 1) := by decide +kernel
theorem dX7_atSign_0 : decode cX7_atSign 0 = .ok (.aload_n 0, 1) := by decide +kernel
theorem dX7_atSign_1 : decode cX7_atSign 1 = .ok (.getfield 25, 3) := by decide +kernel
theorem dX7_atSign_4 : decode cX7_atSign 4 = .ok (.iconst 3, 1) := by decide +kernel
theorem dX7_atSign_5 : decode cX7_atSign 5 = .ok (.if_icmp .ne 7, 3) := by decide +kernel
theorem dX7_atSign_8 : decode cX7_atSign 8 = .ok (.iconst 1, 1) := by decide +kernel
theorem dX7_atSign_9 : decode cX7_atSign 9 = .ok (.goto 4, 3) := by decide +kernel
theorem dX7_atSign_12 : decode cX7_atSign 12 = .ok (.iconst 0, 1) := by decide +kernel
theorem dX7_atSign_13 : decode cX7_atSign 13 = .ok (.ireturn, 1) := by decide +kernel
theorem dX8_init_0 : decode cX8_init 0 = .ok (.aload_n 0, 1) := by decide +kernel
theorem dX8_init_1 : decode cX8_init 1 = .ok (.invokespecial 1, 3) := by decide +kernel
theorem dX8_init_4 : decode cX8_init 4 = .ok (.aload_n 0, 1) := by decide +kernel
theorem dX8_init_5 : decode cX8_init 5 = .ok (.new 7, 3) := by decide +kernel
theorem dX8_init_8 : decode cX8_init 8 = .ok (.dup, 1) := by decide +kernel
theorem dX8_init_9 : decode cX8_init 9 = .ok (.invokespecial 9, 3) := by decide +kernel
theorem dX8_init_12 : decode cX8_init 12 = .ok (.putfield 10, 3) := by decide +kernel
theorem dX8_init_15 : decode cX8_init 15 = .ok (.aload_n 0, 1) := by decide +kernel
theorem dX8_init_16 : decode cX8_init 16 = .ok (.new 16, 3) := by decide +kernel
theorem dX8_init_19 : decode cX8_init 19 = .ok (.dup, 1) := by decide +kernel
theorem dX8_init_20 : decode cX8_init 20 = .ok (.invokespecial 18, 3) := by decide +kernel
theorem dX8_init_23 : decode cX8_init 23 = .ok (.putfield 19, 3) := by decide +kernel
theorem dX8_init_26 : decode cX8_init 26 = .ok (.aload_n 0, 1) := by decide +kernel
theorem dX8_init_27 : decode cX8_init 27 = .ok (.new 23, 3) := by decide +kernel
theorem dX8_init_30 : decode cX8_init 30 = .ok (.dup, 1) := by decide +kernel
theorem dX8_init_31 : decode cX8_init 31 = .ok (.aload_n 0, 1) := by decide +kernel
theorem dX8_init_32 : decode cX8_init 32 = .ok (.getfield 19, 3) := by decide +kernel
theorem dX8_init_35 : decode cX8_init 35 = .ok (.invokespecial 25, 3) := by decide +kernel
theorem dX8_init_38 : decode cX8_init 38 = .ok (.putfield 28, 3) := by decide +kernel
theorem dX8_init_41 : decode cX8_init 41 = .ok (.aload_n 0, 1) := by decide +kernel
theorem dX8_init_42 : decode cX8_init 42 = .ok (.bipush 12, 2) := by decide +kernel
theorem dX8_init_44 : decode cX8_init 44 = .ok (.newarray .int, 2) := by decide +kernel
theorem dX8_init_46 : decode cX8_init 46 = .ok (.putfield 32, 3) := by decide +kernel
theorem dX8_init_49 : decode cX8_init 49 = .ok (.aload_n 0, 1) := by decide +kernel
theorem dX8_init_50 : decode cX8_init 50 = .ok (.bipush 6, 2) := by decide +kernel
theorem dX8_init_52 : decode cX8_init 52 = .ok (.newarray .int, 2) := by decide +kernel
theorem dX8_init_54 : decode cX8_init 54 = .ok (.putfield 36, 3) := by decide +kernel
theorem dX8_init_57 : decode cX8_init 57 = .ok (.aload_n 0, 1) := by decide +kernel
theorem dX8_init_58 : decode cX8_init 58 = .ok (.bipush 12, 2) := by decide +kernel
theorem dX8_init_60 : decode cX8_init 60 = .ok (.newarray .int, 2) := by decide +kernel
theorem dX8_init_62 : decode cX8_init 62 = .ok (.putfield 39, 3) := by decide +kernel
theorem dX8_init_65 : decode cX8_init 65 = .ok (.aload_n 0, 1) := by decide +kernel
theorem dX8_init_66 : decode cX8_init 66 = .ok (.new 42, 3) := by decide +kernel
theorem dX8_init_69 : decode cX8_init 69 = .ok (.dup, 1) := by decide +kernel
theorem dX8_init_70 : decode cX8_init 70 = .ok (.invokespecial 44, 3) := by decide +kernel
theorem dX8_init_73 : decode cX8_init 73 = .ok (.putfield 45, 3) := by decide +kernel
theorem dX8_init_76 : decode cX8_init 76 = .ok (.aload_n 0, 1) := by decide +kernel
theorem dX8_init_77 : decode cX8_init 77 = .ok (.new 42, 3) := by decide +kernel
theorem dX8_init_80 : decode cX8_init 80 = .ok (.dup, 1) := by decide +kernel
theorem dX8_init_81 : decode cX8_init 81 = .ok (.invokespecial 44, 3) := by decide +kernel
theorem dX8_init_84 : decode cX8_init 84 = .ok (.putfield 49, 3) := by decide +kernel
theorem dX8_init_87 : decode cX8_init 87 = .ok (.aload_n 0, 1) := by decide +kernel
theorem dX8_init_88 : decode cX8_init 88 = .ok (.new 52, 3) := by decide +kernel
theorem dX8_init_91 : decode cX8_init 91 = .ok (.dup, 1) := by decide +kernel
theorem dX8_init_92 : decode cX8_init 92 = .ok (.invokespecial 54, 3) := by decide +kernel
theorem dX8_init_95 : decode cX8_init 95 = .ok (.putfield 55, 3) := by decide +kernel
theorem dX8_init_98 : decode cX8_init 98 = .ok (.aload_n 0, 1) := by decide +kernel
theorem dX8_init_99 : decode cX8_init 99 = .ok (.new 59, 3) := by decide +kernel
theorem dX8_init_102 : decode cX8_init 102 = .ok (.dup, 1) := by decide +kernel
theorem dX8_init_103 : decode cX8_init 103 = .ok (.invokespecial 61, 3) := by decide +kernel
theorem dX8_init_106 : decode cX8_init 106 = .ok (.putfield 62, 3) := by decide +kernel
theorem dX8_init_109 : decode cX8_init 109 = .ok (.aload_n 0, 1) := by decide +kernel
theorem dX8_init_110 : decode cX8_init 110 = .ok (.new 66, 3) := by decide +kernel
theorem dX8_init_113 : decode cX8_init 113 = .ok (.dup, 1) := by decide +kernel
theorem dX8_init_114 : decode cX8_init 114 = .ok (.invokespecial 68, 3) := by decide +kernel
theorem dX8_init_117 : decode cX8_init 117 = .ok (.putfield 69, 3) := by decide +kernel
theorem dX8_init_120 : decode cX8_init 120 = .ok (.aload_n 0, 1) := by decide +kernel
theorem dX8_init_121 : decode cX8_init 121 = .ok (.new 73, 3) := by decide +kernel
theorem dX8_init_124 : decode cX8_init 124 = .ok (.dup, 1) := by decide +kernel
theorem dX8_init_125 : decode cX8_init 125 = .ok (.invokespecial 75, 3) := by decide +kernel
theorem dX8_init_128 : decode cX8_init 128 = .ok (.putfield 76, 3) := by decide +kernel
theorem dX8_init_131 : decode cX8_init 131 = .ok (.aload_n 0, 1) := by decide +kernel
theorem dX8_init_132 : decode cX8_init 132 = .ok (.new 73, 3) := by decide +kernel
theorem dX8_init_135 : decode cX8_init 135 = .ok (.dup, 1) := by decide +kernel
theorem dX8_init_136 : decode cX8_init 136 = .ok (.invokespecial 75, 3) := by decide +kernel
theorem dX8_init_139 : decode cX8_init 139 = .ok (.putfield 80, 3) := by decide +kernel
theorem dX8_init_142 : decode cX8_init 142 = .ok (.aload_n 0, 1) := by decide +kernel
theorem dX8_init_143 : decode cX8_init 143 = .ok (.iconst 0, 1) := by decide +kernel
theorem dX8_init_144 : decode cX8_init 144 = .ok (.putfield 83, 3) := by decide +kernel
theorem dX8_init_147 : decode cX8_init 147 = .ok (.aload_n 0, 1) := by decide +kernel
theorem dX8_init_148 : decode cX8_init 148 = .ok (.iconst 0, 1) := by decide +kernel
theorem dX8_init_149 : decode cX8_init 149 = .ok (.putfield 87, 3) := by decide +kernel
theorem dX8_init_152 : decode cX8_init 152 = .ok (.aload_n 0, 1) := by decide +kernel
theorem dX8_init_153 : decode cX8_init 153 = .ok (.iconst 0, 1) := by decide +kernel
theorem dX8_init_154 : decode cX8_init 154 = .ok (.putfield 91, 3) := by decide +kernel
theorem dX8_init_157 : decode cX8_init 157 = .ok (.return_, 1) := by decide +kernel
theorem dX8_sheet_0 : decode cX8_sheet 0 = .ok (.aload_n 0, 1) := by decide +kernel
theorem dX8_sheet_1 : decode cX8_sheet 1 = .ok (.getfield 10, 3) := by decide +kernel
theorem dX8_sheet_4 : decode cX8_sheet 4 = .ok (.iload_n 1, 1) := by decide +kernel
theorem dX8_sheet_5 : decode cX8_sheet 5 = .ok (.invokevirtual 94, 3) := by decide +kernel
theorem dX8_sheet_8 : decode cX8_sheet 8 = .ok (.ifCond .eq 18, 3) := by decide +kernel
theorem dX8_sheet_11 : decode cX8_sheet 11 = .ok (.iload_n 2, 1) := by decide +kernel
theorem dX8_sheet_12 : decode cX8_sheet 12 = .ok (.ifCond .lt 14, 3) := by decide +kernel
theorem dX8_sheet_15 : decode cX8_sheet 15 = .ok (.iload_n 2, 1) := by decide +kernel
theorem dX8_sheet_16 : decode cX8_sheet 16 = .ok (.iconst 3, 1) := by decide +kernel
theorem dX8_sheet_17 : decode cX8_sheet 17 = .ok (.if_icmp .ge 9, 3) := by decide +kernel
theorem dX8_sheet_20 : decode cX8_sheet 20 = .ok (.iload_n 3, 1) := by decide +kernel
theorem dX8_sheet_21 : decode cX8_sheet 21 = .ok (.bipush 40, 2) := by decide +kernel
theorem dX8_sheet_23 : decode cX8_sheet 23 = .ok (.if_icmp .le 6, 3) := by decide +kernel
theorem dX8_sheet_26 : decode cX8_sheet 26 = .ok (.ldc 98, 2) := by decide +kernel
theorem dX8_sheet_28 : decode cX8_sheet 28 = .ok (.ireturn, 1) := by decide +kernel
theorem dX8_sheet_29 : decode cX8_sheet 29 = .ok (.iload_n 3, 1) := by decide +kernel
theorem dX8_sheet_30 : decode cX8_sheet 30 = .ok (.ifCond .ge 9, 3) := by decide +kernel
theorem dX8_sheet_33 : decode cX8_sheet 33 = .ok (.aload_n 0, 1) := by decide +kernel
theorem dX8_sheet_34 : decode cX8_sheet 34 = .ok (.iconst 4, 1) := by decide +kernel
theorem dX8_sheet_35 : decode cX8_sheet 35 = .ok (.invokevirtual 99, 3) := by decide +kernel
theorem dX8_sheet_38 : decode cX8_sheet 38 = .ok (.ireturn, 1) := by decide +kernel
theorem dX8_sheet_39 : decode cX8_sheet 39 = .ok (.aload_n 0, 1) := by decide +kernel
theorem dX8_sheet_40 : decode cX8_sheet 40 = .ok (.getfield 10, 3) := by decide +kernel
theorem dX8_sheet_43 : decode cX8_sheet 43 = .ok (.iload_n 1, 1) := by decide +kernel
theorem dX8_sheet_44 : decode cX8_sheet 44 = .ok (.iload_n 2, 1) := by decide +kernel
theorem dX8_sheet_45 : decode cX8_sheet 45 = .ok (.iload_n 3, 1) := by decide +kernel
theorem dX8_sheet_46 : decode cX8_sheet 46 = .ok (.invokevirtual 103, 3) := by decide +kernel
theorem dX8_sheet_49 : decode cX8_sheet 49 = .ok (.aload_n 0, 1) := by decide +kernel
theorem dX8_sheet_50 : decode cX8_sheet 50 = .ok (.iload_n 3, 1) := by decide +kernel
theorem dX8_sheet_51 : decode cX8_sheet 51 = .ok (.invokevirtual 107, 3) := by decide +kernel
theorem dX8_sheet_54 : decode cX8_sheet 54 = .ok (.ireturn, 1) := by decide +kernel
theorem dX8_set_0 : decode cX8_set 0 = .ok (.aload_n 0, 1) := by decide +kernel
theorem dX8_set_1 : decode cX8_set 1 = .ok (.getfield 10, 3) := by decide +kernel
theorem dX8_set_4 : decode cX8_set 4 = .ok (.iload_n 1, 1) := by decide +kernel
theorem dX8_set_5 : decode cX8_set 5 = .ok (.invokevirtual 94, 3) := by decide +kernel
theorem dX8_set_8 : decode cX8_set 8 = .ok (.ifCond .ne 6, 3) := by decide +kernel
theorem dX8_set_11 : decode cX8_set 11 = .ok (.ldc 98, 2) := by decide +kernel
theorem dX8_set_13 : decode cX8_set 13 = .ok (.ireturn, 1) := by decide +kernel
theorem dX8_set_14 : decode cX8_set 14 = .ok (.aload_n 0, 1) := by decide +kernel
theorem dX8_set_15 : decode cX8_set 15 = .ok (.getfield 10, 3) := by decide +kernel
theorem dX8_set_18 : decode cX8_set 18 = .ok (.iload_n 1, 1) := by decide +kernel
theorem dX8_set_19 : decode cX8_set 19 = .ok (.iload_n 2, 1) := by decide +kernel
theorem dX8_set_20 : decode cX8_set 20 = .ok (.iconst 1, 1) := by decide +kernel
theorem dX8_set_21 : decode cX8_set 21 = .ok (.invokevirtual 110, 3) := by decide +kernel
theorem dX8_set_24 : decode cX8_set 24 = .ok (.istore 4, 2) := by decide +kernel
theorem dX8_set_26 : decode cX8_set 26 = .ok (.iload 4, 2) := by decide +kernel
theorem dX8_set_28 : decode cX8_set 28 = .ok (.ifCond .eq 10, 3) := by decide +kernel
theorem dX8_set_31 : decode cX8_set 31 = .ok (.aload_n 0, 1) := by decide +kernel
theorem dX8_set_32 : decode cX8_set 32 = .ok (.iload 4, 2) := by decide +kernel
theorem dX8_set_34 : decode cX8_set 34 = .ok (.invokevirtual 99, 3) := by decide +kernel
theorem dX8_set_37 : decode cX8_set 37 = .ok (.ireturn, 1) := by decide +kernel
theorem dX8_set_38 : decode cX8_set 38 = .ok (.aload_n 0, 1) := by decide +kernel
theorem dX8_set_39 : decode cX8_set 39 = .ok (.aload_n 0, 1) := by decide +kernel
theorem dX8_set_40 : decode cX8_set 40 = .ok (.getfield 10, 3) := by decide +kernel
theorem dX8_set_43 : decode cX8_set 43 = .ok (.iload_n 1, 1) := by decide +kernel
theorem dX8_set_44 : decode cX8_set 44 = .ok (.iload_n 2, 1) := by decide +kernel
theorem dX8_set_45 : decode cX8_set 45 = .ok (.iload_n 3, 1) := by decide +kernel
theorem dX8_set_46 : decode cX8_set 46 = .ok (.invokevirtual 114, 3) := by decide +kernel
theorem dX8_set_49 : decode cX8_set 49 = .ok (.invokevirtual 107, 3) := by decide +kernel
theorem dX8_set_52 : decode cX8_set 52 = .ok (.ireturn, 1) := by decide +kernel
theorem dX8_copy_0 : decode cX8_copy 0 = .ok (.aload_n 0, 1) := by decide +kernel
theorem dX8_copy_1 : decode cX8_copy 1 = .ok (.getfield 10, 3) := by decide +kernel
end
section
theorem dX8_copy_4 : decode cX8_copy 4 = .ok (.iload_n 1, 1) := by decide +kernel
theorem dX8_copy_5 : decode cX8_copy 5 = .ok (.invokevirtual 94, 3) := by decide +kernel
theorem dX8_copy_8 : decode cX8_copy 8 = .ok (.ifCond .eq 14, 3) := by decide +kernel
theorem dX8_copy_11 : decode cX8_copy 11 = .ok (.aload_n 0, 1) := by decide +kernel
theorem dX8_copy_12 : decode cX8_copy 12 = .ok (.getfield 10, 3) := by decide +kernel
theorem dX8_copy_15 : decode cX8_copy 15 = .ok (.iload_n 3, 1) := by decide +kernel
theorem dX8_copy_16 : decode cX8_copy 16 = .ok (.invokevirtual 94, 3) := by decide +kernel
theorem dX8_copy_19 : decode cX8_copy 19 = .ok (.ifCond .ne 6, 3) := by decide +kernel
theorem dX8_copy_22 : decode cX8_copy 22 = .ok (.ldc 98, 2) := by decide +kernel
theorem dX8_copy_24 : decode cX8_copy 24 = .ok (.ireturn, 1) := by decide +kernel
theorem dX8_copy_25 : decode cX8_copy 25 = .ok (.aload_n 0, 1) := by decide +kernel
theorem dX8_copy_26 : decode cX8_copy 26 = .ok (.getfield 10, 3) := by decide +kernel
theorem dX8_copy_29 : decode cX8_copy 29 = .ok (.iload_n 1, 1) := by decide +kernel
theorem dX8_copy_30 : decode cX8_copy 30 = .ok (.iload_n 3, 1) := by decide +kernel
theorem dX8_copy_31 : decode cX8_copy 31 = .ok (.invokevirtual 117, 3) := by decide +kernel
theorem dX8_copy_34 : decode cX8_copy 34 = .ok (.istore 6, 2) := by decide +kernel
theorem dX8_copy_36 : decode cX8_copy 36 = .ok (.iload 6, 2) := by decide +kernel
theorem dX8_copy_38 : decode cX8_copy 38 = .ok (.ifCond .ne 16, 3) := by decide +kernel
theorem dX8_copy_41 : decode cX8_copy 41 = .ok (.aload_n 0, 1) := by decide +kernel
theorem dX8_copy_42 : decode cX8_copy 42 = .ok (.getfield 10, 3) := by decide +kernel
theorem dX8_copy_45 : decode cX8_copy 45 = .ok (.iload_n 1, 1) := by decide +kernel
theorem dX8_copy_46 : decode cX8_copy 46 = .ok (.iload_n 2, 1) := by decide +kernel
theorem dX8_copy_47 : decode cX8_copy 47 = .ok (.iload 5, 2) := by decide +kernel
theorem dX8_copy_49 : decode cX8_copy 49 = .ok (.invokevirtual 110, 3) := by decide +kernel
theorem dX8_copy_52 : decode cX8_copy 52 = .ok (.istore 6, 2) := by decide +kernel
theorem dX8_copy_54 : decode cX8_copy 54 = .ok (.iload 6, 2) := by decide +kernel
theorem dX8_copy_56 : decode cX8_copy 56 = .ok (.ifCond .ne 17, 3) := by decide +kernel
theorem dX8_copy_59 : decode cX8_copy 59 = .ok (.aload_n 0, 1) := by decide +kernel
theorem dX8_copy_60 : decode cX8_copy 60 = .ok (.getfield 10, 3) := by decide +kernel
theorem dX8_copy_63 : decode cX8_copy 63 = .ok (.iload_n 3, 1) := by decide +kernel
theorem dX8_copy_64 : decode cX8_copy 64 = .ok (.iload 4, 2) := by decide +kernel
theorem dX8_copy_66 : decode cX8_copy 66 = .ok (.iload 5, 2) := by decide +kernel
theorem dX8_copy_68 : decode cX8_copy 68 = .ok (.invokevirtual 110, 3) := by decide +kernel
theorem dX8_copy_71 : decode cX8_copy 71 = .ok (.istore 6, 2) := by decide +kernel
theorem dX8_copy_73 : decode cX8_copy 73 = .ok (.iload 6, 2) := by decide +kernel
theorem dX8_copy_75 : decode cX8_copy 75 = .ok (.ifCond .eq 10, 3) := by decide +kernel
theorem dX8_copy_78 : decode cX8_copy 78 = .ok (.aload_n 0, 1) := by decide +kernel
theorem dX8_copy_79 : decode cX8_copy 79 = .ok (.iload 6, 2) := by decide +kernel
theorem dX8_copy_81 : decode cX8_copy 81 = .ok (.invokevirtual 99, 3) := by decide +kernel
theorem dX8_copy_84 : decode cX8_copy 84 = .ok (.ireturn, 1) := by decide +kernel
theorem dX8_copy_85 : decode cX8_copy 85 = .ok (.aload_n 0, 1) := by decide +kernel
theorem dX8_copy_86 : decode cX8_copy 86 = .ok (.getfield 10, 3) := by decide +kernel
theorem dX8_copy_89 : decode cX8_copy 89 = .ok (.iload_n 1, 1) := by decide +kernel
theorem dX8_copy_90 : decode cX8_copy 90 = .ok (.iload_n 2, 1) := by decide +kernel
theorem dX8_copy_91 : decode cX8_copy 91 = .ok (.iload_n 3, 1) := by decide +kernel
theorem dX8_copy_92 : decode cX8_copy 92 = .ok (.iload 4, 2) := by decide +kernel
theorem dX8_copy_94 : decode cX8_copy 94 = .ok (.iload 5, 2) := by decide +kernel
theorem dX8_copy_96 : decode cX8_copy 96 = .ok (.invokevirtual 121, 3) := by decide +kernel
theorem dX8_copy_99 : decode cX8_copy 99 = .ok (.aload_n 0, 1) := by decide +kernel
theorem dX8_copy_100 : decode cX8_copy 100 = .ok (.iload 5, 2) := by decide +kernel
theorem dX8_copy_102 : decode cX8_copy 102 = .ok (.invokevirtual 107, 3) := by decide +kernel
theorem dX8_copy_105 : decode cX8_copy 105 = .ok (.ireturn, 1) := by decide +kernel
theorem dX8_drop_0 : decode cX8_drop 0 = .ok (.aload_n 0, 1) := by decide +kernel
theorem dX8_drop_1 : decode cX8_drop 1 = .ok (.getfield 10, 3) := by decide +kernel
theorem dX8_drop_4 : decode cX8_drop 4 = .ok (.iload_n 1, 1) := by decide +kernel
theorem dX8_drop_5 : decode cX8_drop 5 = .ok (.invokevirtual 94, 3) := by decide +kernel
theorem dX8_drop_8 : decode cX8_drop 8 = .ok (.ifCond .ne 6, 3) := by decide +kernel
theorem dX8_drop_11 : decode cX8_drop 11 = .ok (.ldc 98, 2) := by decide +kernel
theorem dX8_drop_13 : decode cX8_drop 13 = .ok (.ireturn, 1) := by decide +kernel
theorem dX8_drop_14 : decode cX8_drop 14 = .ok (.aload_n 0, 1) := by decide +kernel
theorem dX8_drop_15 : decode cX8_drop 15 = .ok (.getfield 10, 3) := by decide +kernel
theorem dX8_drop_18 : decode cX8_drop 18 = .ok (.iload_n 1, 1) := by decide +kernel
theorem dX8_drop_19 : decode cX8_drop 19 = .ok (.invokevirtual 125, 3) := by decide +kernel
theorem dX8_drop_22 : decode cX8_drop 22 = .ok (.ifCond .eq 9, 3) := by decide +kernel
theorem dX8_drop_25 : decode cX8_drop 25 = .ok (.aload_n 0, 1) := by decide +kernel
theorem dX8_drop_26 : decode cX8_drop 26 = .ok (.iconst 1, 1) := by decide +kernel
theorem dX8_drop_27 : decode cX8_drop 27 = .ok (.invokevirtual 99, 3) := by decide +kernel
theorem dX8_drop_30 : decode cX8_drop 30 = .ok (.ireturn, 1) := by decide +kernel
theorem dX8_drop_31 : decode cX8_drop 31 = .ok (.aload_n 0, 1) := by decide +kernel
theorem dX8_drop_32 : decode cX8_drop 32 = .ok (.aload_n 0, 1) := by decide +kernel
theorem dX8_drop_33 : decode cX8_drop 33 = .ok (.getfield 10, 3) := by decide +kernel
theorem dX8_drop_36 : decode cX8_drop 36 = .ok (.iload_n 1, 1) := by decide +kernel
theorem dX8_drop_37 : decode cX8_drop 37 = .ok (.invokevirtual 128, 3) := by decide +kernel
theorem dX8_drop_40 : decode cX8_drop 40 = .ok (.invokevirtual 107, 3) := by decide +kernel
theorem dX8_drop_43 : decode cX8_drop 43 = .ok (.ireturn, 1) := by decide +kernel
theorem dX8_feed_0 : decode cX8_feed 0 = .ok (.iload_n 3, 1) := by decide +kernel
theorem dX8_feed_1 : decode cX8_feed 1 = .ok (.iconst 1, 1) := by decide +kernel
theorem dX8_feed_2 : decode cX8_feed 2 = .ok (.if_icmp .lt 9, 3) := by decide +kernel
theorem dX8_feed_5 : decode cX8_feed 5 = .ok (.iload_n 3, 1) := by decide +kernel
theorem dX8_feed_6 : decode cX8_feed 6 = .ok (.bipush 8, 2) := by decide +kernel
theorem dX8_feed_8 : decode cX8_feed 8 = .ok (.if_icmp .le 6, 3) := by decide +kernel
theorem dX8_feed_11 : decode cX8_feed 11 = .ok (.ldc 98, 2) := by decide +kernel
theorem dX8_feed_13 : decode cX8_feed 13 = .ok (.ireturn, 1) := by decide +kernel
theorem dX8_feed_14 : decode cX8_feed 14 = .ok (.aload_n 0, 1) := by decide +kernel
theorem dX8_feed_15 : decode cX8_feed 15 = .ok (.getfield 19, 3) := by decide +kernel
theorem dX8_feed_18 : decode cX8_feed 18 = .ok (.iload_n 3, 1) := by decide +kernel
theorem dX8_feed_19 : decode cX8_feed 19 = .ok (.invokevirtual 131, 3) := by decide +kernel
theorem dX8_feed_22 : decode cX8_feed 22 = .ok (.ifCond .ne 6, 3) := by decide +kernel
theorem dX8_feed_25 : decode cX8_feed 25 = .ok (.ldc 134, 2) := by decide +kernel
theorem dX8_feed_27 : decode cX8_feed 27 = .ok (.ireturn, 1) := by decide +kernel
theorem dX8_feed_28 : decode cX8_feed 28 = .ok (.aload_n 0, 1) := by decide +kernel
theorem dX8_feed_29 : decode cX8_feed 29 = .ok (.getfield 19, 3) := by decide +kernel
theorem dX8_feed_32 : decode cX8_feed 32 = .ok (.lload_n 1, 1) := by decide +kernel
theorem dX8_feed_33 : decode cX8_feed 33 = .ok (.iload_n 3, 1) := by decide +kernel
theorem dX8_feed_34 : decode cX8_feed 34 = .ok (.invokevirtual 135, 3) := by decide +kernel
theorem dX8_feed_37 : decode cX8_feed 37 = .ok (.ireturn, 1) := by decide +kernel
theorem dX8_plan_0 : decode cX8_plan 0 = .ok (.aload_n 0, 1) := by decide +kernel
theorem dX8_plan_1 : decode cX8_plan 1 = .ok (.getfield 28, 3) := by decide +kernel
theorem dX8_plan_4 : decode cX8_plan 4 = .ok (.aload_n 0, 1) := by decide +kernel
theorem dX8_plan_5 : decode cX8_plan 5 = .ok (.getfield 80, 3) := by decide +kernel
theorem dX8_plan_8 : decode cX8_plan 8 = .ok (.invokevirtual 139, 3) := by decide +kernel
theorem dX8_plan_11 : decode cX8_plan 11 = .ok (.istore_n 1, 1) := by decide +kernel
theorem dX8_plan_12 : decode cX8_plan 12 = .ok (.aload_n 0, 1) := by decide +kernel
theorem dX8_plan_13 : decode cX8_plan 13 = .ok (.getfield 19, 3) := by decide +kernel
theorem dX8_plan_16 : decode cX8_plan 16 = .ok (.invokevirtual 143, 3) := by decide +kernel
theorem dX8_plan_19 : decode cX8_plan 19 = .ok (.istore_n 2, 1) := by decide +kernel
theorem dX8_plan_20 : decode cX8_plan 20 = .ok (.aload_n 0, 1) := by decide +kernel
theorem dX8_plan_21 : decode cX8_plan 21 = .ok (.getfield 19, 3) := by decide +kernel
theorem dX8_plan_24 : decode cX8_plan 24 = .ok (.invokevirtual 147, 3) := by decide +kernel
theorem dX8_plan_27 : decode cX8_plan 27 = .ok (.iload_n 1, 1) := by decide +kernel
theorem dX8_plan_28 : decode cX8_plan 28 = .ok (.ifCond .eq 13, 3) := by decide +kernel
theorem dX8_plan_31 : decode cX8_plan 31 = .ok (.aload_n 0, 1) := by decide +kernel
theorem dX8_plan_32 : decode cX8_plan 32 = .ok (.iload_n 1, 1) := by decide +kernel
theorem dX8_plan_33 : decode cX8_plan 33 = .ok (.putfield 87, 3) := by decide +kernel
theorem dX8_plan_36 : decode cX8_plan 36 = .ok (.ldc 150, 2) := by decide +kernel
theorem dX8_plan_38 : decode cX8_plan 38 = .ok (.iload_n 2, 1) := by decide +kernel
theorem dX8_plan_39 : decode cX8_plan 39 = .ok (.isub, 1) := by decide +kernel
theorem dX8_plan_40 : decode cX8_plan 40 = .ok (.ireturn, 1) := by decide +kernel
theorem dX8_plan_41 : decode cX8_plan 41 = .ok (.aload_n 0, 1) := by decide +kernel
theorem dX8_plan_42 : decode cX8_plan 42 = .ok (.getfield 76, 3) := by decide +kernel
theorem dX8_plan_45 : decode cX8_plan 45 = .ok (.astore_n 3, 1) := by decide +kernel
theorem dX8_plan_46 : decode cX8_plan 46 = .ok (.aload_n 0, 1) := by decide +kernel
theorem dX8_plan_47 : decode cX8_plan 47 = .ok (.aload_n 0, 1) := by decide +kernel
theorem dX8_plan_48 : decode cX8_plan 48 = .ok (.getfield 80, 3) := by decide +kernel
theorem dX8_plan_51 : decode cX8_plan 51 = .ok (.putfield 76, 3) := by decide +kernel
theorem dX8_plan_54 : decode cX8_plan 54 = .ok (.aload_n 0, 1) := by decide +kernel
theorem dX8_plan_55 : decode cX8_plan 55 = .ok (.aload_n 3, 1) := by decide +kernel
theorem dX8_plan_56 : decode cX8_plan 56 = .ok (.putfield 80, 3) := by decide +kernel
theorem dX8_plan_59 : decode cX8_plan 59 = .ok (.aload_n 0, 1) := by decide +kernel
theorem dX8_plan_60 : decode cX8_plan 60 = .ok (.invokevirtual 151, 3) := by decide +kernel
theorem dX8_plan_63 : decode cX8_plan 63 = .ok (.aload_n 0, 1) := by decide +kernel
theorem dX8_plan_64 : decode cX8_plan 64 = .ok (.getfield 76, 3) := by decide +kernel
theorem dX8_plan_67 : decode cX8_plan 67 = .ok (.getfield 154, 3) := by decide +kernel
theorem dX8_plan_70 : decode cX8_plan 70 = .ok (.ireturn, 1) := by decide +kernel
theorem dX8_beginPlan_0 : decode cX8_beginPlan 0 = .ok (.aload_n 0, 1) := by decide +kernel
theorem dX8_beginPlan_1 : decode cX8_beginPlan 1 = .ok (.iconst 0, 1) := by decide +kernel
theorem dX8_beginPlan_2 : decode cX8_beginPlan 2 = .ok (.putfield 83, 3) := by decide +kernel
theorem dX8_beginPlan_5 : decode cX8_beginPlan 5 = .ok (.aload_n 0, 1) := by decide +kernel
theorem dX8_beginPlan_6 : decode cX8_beginPlan 6 = .ok (.getfield 32, 3) := by decide +kernel
theorem dX8_beginPlan_9 : decode cX8_beginPlan 9 = .ok (.iconst 0, 1) := by decide +kernel
theorem dX8_beginPlan_10 : decode cX8_beginPlan 10 = .ok (.invokestatic 157, 3) := by decide +kernel
theorem dX8_beginPlan_13 : decode cX8_beginPlan 13 = .ok (.getstatic 163, 3) := by decide +kernel
theorem dX8_beginPlan_16 : decode cX8_beginPlan 16 = .ok (.iconst 0, 1) := by decide +kernel
theorem dX8_beginPlan_17 : decode cX8_beginPlan 17 = .ok (.aload_n 0, 1) := by decide +kernel
theorem dX8_beginPlan_18 : decode cX8_beginPlan 18 = .ok (.getfield 36, 3) := by decide +kernel
theorem dX8_beginPlan_21 : decode cX8_beginPlan 21 = .ok (.iconst 0, 1) := by decide +kernel
theorem dX8_beginPlan_22 : decode cX8_beginPlan 22 = .ok (.bipush 6, 2) := by decide +kernel
theorem dX8_beginPlan_24 : decode cX8_beginPlan 24 = .ok (.invokestatic 166, 3) := by decide +kernel
theorem dX8_beginPlan_27 : decode cX8_beginPlan 27 = .ok (.aload_n 0, 1) := by decide +kernel
theorem dX8_beginPlan_28 : decode cX8_beginPlan 28 = .ok (.getfield 45, 3) := by decide +kernel
theorem dX8_beginPlan_31 : decode cX8_beginPlan 31 = .ok (.aload_n 0, 1) := by decide +kernel
theorem dX8_beginPlan_32 : decode cX8_beginPlan 32 = .ok (.getfield 76, 3) := by decide +kernel
theorem dX8_beginPlan_35 : decode cX8_beginPlan 35 = .ok (.getfield 172, 3) := by decide +kernel
theorem dX8_beginPlan_38 : decode cX8_beginPlan 38 = .ok (.aload_n 0, 1) := by decide +kernel
theorem dX8_beginPlan_39 : decode cX8_beginPlan 39 = .ok (.getfield 32, 3) := by decide +kernel
theorem dX8_beginPlan_42 : decode cX8_beginPlan 42 = .ok (.invokevirtual 175, 3) := by decide +kernel
theorem dX8_beginPlan_45 : decode cX8_beginPlan 45 = .ok (.aload_n 0, 1) := by decide +kernel
theorem dX8_beginPlan_46 : decode cX8_beginPlan 46 = .ok (.getfield 55, 3) := by decide +kernel
theorem dX8_beginPlan_49 : decode cX8_beginPlan 49 = .ok (.invokevirtual 179, 3) := by decide +kernel
theorem dX8_beginPlan_52 : decode cX8_beginPlan 52 = .ok (.aload_n 0, 1) := by decide +kernel
theorem dX8_beginPlan_53 : decode cX8_beginPlan 53 = .ok (.getfield 62, 3) := by decide +kernel
theorem dX8_beginPlan_56 : decode cX8_beginPlan 56 = .ok (.invokevirtual 182, 3) := by decide +kernel
theorem dX8_beginPlan_59 : decode cX8_beginPlan 59 = .ok (.return_, 1) := by decide +kernel
theorem dX8_fault_0 : decode cX8_fault 0 = .ok (.aload_n 0, 1) := by decide +kernel
theorem dX8_fault_1 : decode cX8_fault 1 = .ok (.getfield 87, 3) := by decide +kernel
theorem dX8_fault_4 : decode cX8_fault 4 = .ok (.ireturn, 1) := by decide +kernel
theorem dX8_act_0 : decode cX8_act 0 = .ok (.aload_n 0, 1) := by decide +kernel
theorem dX8_act_1 : decode cX8_act 1 = .ok (.getfield 76, 3) := by decide +kernel
theorem dX8_act_4 : decode cX8_act 4 = .ok (.iload_n 1, 1) := by decide +kernel
theorem dX8_act_5 : decode cX8_act 5 = .ok (.invokevirtual 183, 3) := by decide +kernel
theorem dX8_act_8 : decode cX8_act 8 = .ok (.ifCond .ne 6, 3) := by decide +kernel
theorem dX8_act_11 : decode cX8_act 11 = .ok (.ldc 98, 2) := by decide +kernel
theorem dX8_act_13 : decode cX8_act 13 = .ok (.ireturn, 1) := by decide +kernel
theorem dX8_act_14 : decode cX8_act 14 = .ok (.iload_n 2, 1) := by decide +kernel
theorem dX8_act_15 : decode cX8_act 15 = .ok (.tableswitch 85 0 3 #[29, 39, 49, 75], 29) := by decide +kernel
theorem dX8_act_44 : decode cX8_act 44 = .ok (.aload_n 0, 1) := by decide +kernel
theorem dX8_act_45 : decode cX8_act 45 = .ok (.getfield 76, 3) := by decide +kernel
theorem dX8_act_48 : decode cX8_act 48 = .ok (.getfield 186, 3) := by decide +kernel
theorem dX8_act_51 : decode cX8_act 51 = .ok (.iload_n 1, 1) := by decide +kernel
theorem dX8_act_52 : decode cX8_act 52 = .ok (.iaload, 1) := by decide +kernel
theorem dX8_act_53 : decode cX8_act 53 = .ok (.ireturn, 1) := by decide +kernel
theorem dX8_act_54 : decode cX8_act 54 = .ok (.aload_n 0, 1) := by decide +kernel
theorem dX8_act_55 : decode cX8_act 55 = .ok (.getfield 76, 3) := by decide +kernel
theorem dX8_act_58 : decode cX8_act 58 = .ok (.getfield 189, 3) := by decide +kernel
theorem dX8_act_61 : decode cX8_act 61 = .ok (.iload_n 1, 1) := by decide +kernel
theorem dX8_act_62 : decode cX8_act 62 = .ok (.iaload, 1) := by decide +kernel
theorem dX8_act_63 : decode cX8_act 63 = .ok (.ireturn, 1) := by decide +kernel
theorem dX8_act_64 : decode cX8_act 64 = .ok (.aload_n 0, 1) := by decide +kernel
theorem dX8_act_65 : decode cX8_act 65 = .ok (.getfield 76, 3) := by decide +kernel
theorem dX8_act_68 : decode cX8_act 68 = .ok (.iload_n 1, 1) := by decide +kernel
theorem dX8_act_69 : decode cX8_act 69 = .ok (.invokevirtual 192, 3) := by decide +kernel
theorem dX8_act_72 : decode cX8_act 72 = .ok (.ifCond .eq 15, 3) := by decide +kernel
theorem dX8_act_75 : decode cX8_act 75 = .ok (.aload_n 0, 1) := by decide +kernel
theorem dX8_act_76 : decode cX8_act 76 = .ok (.getfield 76, 3) := by decide +kernel
theorem dX8_act_79 : decode cX8_act 79 = .ok (.getfield 195, 3) := by decide +kernel
theorem dX8_act_82 : decode cX8_act 82 = .ok (.iload_n 1, 1) := by decide +kernel
theorem dX8_act_83 : decode cX8_act 83 = .ok (.iaload, 1) := by decide +kernel
theorem dX8_act_84 : decode cX8_act 84 = .ok (.goto 5, 3) := by decide +kernel
theorem dX8_act_87 : decode cX8_act 87 = .ok (.ldc 198, 2) := by decide +kernel
theorem dX8_act_89 : decode cX8_act 89 = .ok (.ireturn, 1) := by decide +kernel
theorem dX8_act_90 : decode cX8_act 90 = .ok (.aload_n 0, 1) := by decide +kernel
theorem dX8_act_91 : decode cX8_act 91 = .ok (.getfield 76, 3) := by decide +kernel
theorem dX8_act_94 : decode cX8_act 94 = .ok (.getfield 199, 3) := by decide +kernel
theorem dX8_act_97 : decode cX8_act 97 = .ok (.iload_n 1, 1) := by decide +kernel
theorem dX8_act_98 : decode cX8_act 98 = .ok (.iaload, 1) := by decide +kernel
theorem dX8_act_99 : decode cX8_act 99 = .ok (.ireturn, 1) := by decide +kernel
theorem dX8_act_100 : decode cX8_act 100 = .ok (.ldc 98, 2) := by decide +kernel
theorem dX8_act_102 : decode cX8_act 102 = .ok (.ireturn, 1) := by decide +kernel
theorem dX8_open_0 : decode cX8_open 0 = .ok (.aload_n 0, 1) := by decide +kernel
theorem dX8_open_1 : decode cX8_open 1 = .ok (.getfield 76, 3) := by decide +kernel
theorem dX8_open_4 : decode cX8_open 4 = .ok (.iload_n 1, 1) := by decide +kernel
theorem dX8_open_5 : decode cX8_open 5 = .ok (.invokevirtual 202, 3) := by decide +kernel
theorem dX8_open_8 : decode cX8_open 8 = .ok (.ifCond .eq 15, 3) := by decide +kernel
theorem dX8_open_11 : decode cX8_open 11 = .ok (.iload_n 2, 1) := by decide +kernel
theorem dX8_open_12 : decode cX8_open 12 = .ok (.bipush (-40), 2) := by decide +kernel
theorem dX8_open_14 : decode cX8_open 14 = .ok (.if_icmp .lt 9, 3) := by decide +kernel
theorem dX8_open_17 : decode cX8_open 17 = .ok (.iload_n 2, 1) := by decide +kernel
theorem dX8_open_18 : decode cX8_open 18 = .ok (.bipush 40, 2) := by decide +kernel
theorem dX8_open_20 : decode cX8_open 20 = .ok (.if_icmp .le 6, 3) := by decide +kernel
theorem dX8_open_23 : decode cX8_open 23 = .ok (.ldc 98, 2) := by decide +kernel
theorem dX8_open_25 : decode cX8_open 25 = .ok (.ireturn, 1) := by decide +kernel
theorem dX8_open_26 : decode cX8_open 26 = .ok (.aload_n 0, 1) := by decide +kernel
theorem dX8_open_27 : decode cX8_open 27 = .ok (.getfield 32, 3) := by decide +kernel
theorem dX8_open_30 : decode cX8_open 30 = .ok (.iload_n 1, 1) := by decide +kernel
theorem dX8_open_31 : decode cX8_open 31 = .ok (.iaload, 1) := by decide +kernel
theorem dX8_open_32 : decode cX8_open 32 = .ok (.istore_n 3, 1) := by decide +kernel
theorem dX8_open_33 : decode cX8_open 33 = .ok (.aload_n 0, 1) := by decide +kernel
theorem dX8_open_34 : decode cX8_open 34 = .ok (.getfield 32, 3) := by decide +kernel
theorem dX8_open_37 : decode cX8_open 37 = .ok (.iload_n 1, 1) := by decide +kernel
theorem dX8_open_38 : decode cX8_open 38 = .ok (.iload_n 2, 1) := by decide +kernel
theorem dX8_open_39 : decode cX8_open 39 = .ok (.iastore, 1) := by decide +kernel
theorem dX8_open_40 : decode cX8_open 40 = .ok (.aload_n 0, 1) := by decide +kernel
theorem dX8_open_41 : decode cX8_open 41 = .ok (.getfield 55, 3) := by decide +kernel
theorem dX8_open_44 : decode cX8_open 44 = .ok (.invokevirtual 179, 3) := by decide +kernel
theorem dX8_open_47 : decode cX8_open 47 = .ok (.aload_n 0, 1) := by decide +kernel
theorem dX8_open_48 : decode cX8_open 48 = .ok (.getfield 83, 3) := by decide +kernel
theorem dX8_open_51 : decode cX8_open 51 = .ok (.ifCond .ne 21, 3) := by decide +kernel
theorem dX8_open_54 : decode cX8_open 54 = .ok (.aload_n 0, 1) := by decide +kernel
theorem dX8_open_55 : decode cX8_open 55 = .ok (.getfield 45, 3) := by decide +kernel
theorem dX8_open_58 : decode cX8_open 58 = .ok (.aload_n 0, 1) := by decide +kernel
theorem dX8_open_59 : decode cX8_open 59 = .ok (.getfield 76, 3) := by decide +kernel
theorem dX8_open_62 : decode cX8_open 62 = .ok (.getfield 172, 3) := by decide +kernel
theorem dX8_open_65 : decode cX8_open 65 = .ok (.aload_n 0, 1) := by decide +kernel
theorem dX8_open_66 : decode cX8_open 66 = .ok (.getfield 32, 3) := by decide +kernel
theorem dX8_open_69 : decode cX8_open 69 = .ok (.invokevirtual 175, 3) := by decide +kernel
theorem dX8_open_72 : decode cX8_open 72 = .ok (.iload_n 3, 1) := by decide +kernel
theorem dX8_open_73 : decode cX8_open 73 = .ok (.ireturn, 1) := by decide +kernel
theorem dX8_run_0 : decode cX8_run 0 = .ok (.aload_n 0, 1) := by decide +kernel
theorem dX8_run_1 : decode cX8_run 1 = .ok (.getfield 10, 3) := by decide +kernel
theorem dX8_run_4 : decode cX8_run 4 = .ok (.iload_n 1, 1) := by decide +kernel
theorem dX8_run_5 : decode cX8_run 5 = .ok (.invokevirtual 94, 3) := by decide +kernel
theorem dX8_run_8 : decode cX8_run 8 = .ok (.ifCond .ne 6, 3) := by decide +kernel
theorem dX8_run_11 : decode cX8_run 11 = .ok (.ldc 98, 2) := by decide +kernel
theorem dX8_run_13 : decode cX8_run 13 = .ok (.ireturn, 1) := by decide +kernel
theorem dX8_run_14 : decode cX8_run 14 = .ok (.aload_n 0, 1) := by decide +kernel
theorem dX8_run_15 : decode cX8_run 15 = .ok (.getfield 76, 3) := by decide +kernel
theorem dX8_run_18 : decode cX8_run 18 = .ok (.invokevirtual 205, 3) := by decide +kernel
theorem dX8_run_21 : decode cX8_run 21 = .ok (.ifCond .eq 6, 3) := by decide +kernel
theorem dX8_run_24 : decode cX8_run 24 = .ok (.ldc 209, 2) := by decide +kernel
theorem dX8_run_26 : decode cX8_run 26 = .ok (.ireturn, 1) := by decide +kernel
theorem dX8_run_27 : decode cX8_run 27 = .ok (.aload_n 0, 1) := by decide +kernel
theorem dX8_run_28 : decode cX8_run 28 = .ok (.getfield 10, 3) := by decide +kernel
theorem dX8_run_31 : decode cX8_run 31 = .ok (.iload_n 1, 1) := by decide +kernel
theorem dX8_run_32 : decode cX8_run 32 = .ok (.iload_n 2, 1) := by decide +kernel
theorem dX8_run_33 : decode cX8_run 33 = .ok (.aload_n 0, 1) := by decide +kernel
theorem dX8_run_34 : decode cX8_run 34 = .ok (.getfield 76, 3) := by decide +kernel
theorem dX8_run_37 : decode cX8_run 37 = .ok (.getfield 210, 3) := by decide +kernel
theorem dX8_run_40 : decode cX8_run 40 = .ok (.invokevirtual 110, 3) := by decide +kernel
theorem dX8_run_43 : decode cX8_run 43 = .ok (.istore_n 3, 1) := by decide +kernel
theorem dX8_run_44 : decode cX8_run 44 = .ok (.iload_n 3, 1) := by decide +kernel
theorem dX8_run_45 : decode cX8_run 45 = .ok (.ifCond .eq 9, 3) := by decide +kernel
theorem dX8_run_48 : decode cX8_run 48 = .ok (.aload_n 0, 1) := by decide +kernel
theorem dX8_run_49 : decode cX8_run 49 = .ok (.iload_n 3, 1) := by decide +kernel
theorem dX8_run_50 : decode cX8_run 50 = .ok (.invokevirtual 99, 3) := by decide +kernel
theorem dX8_run_53 : decode cX8_run 53 = .ok (.ireturn, 1) := by decide +kernel
theorem dX8_run_54 : decode cX8_run 54 = .ok (.aload_n 0, 1) := by decide +kernel
theorem dX8_run_55 : decode cX8_run 55 = .ok (.getfield 10, 3) := by decide +kernel
theorem dX8_run_58 : decode cX8_run 58 = .ok (.iload_n 1, 1) := by decide +kernel
theorem dX8_run_59 : decode cX8_run 59 = .ok (.iload_n 2, 1) := by decide +kernel
theorem dX8_run_60 : decode cX8_run 60 = .ok (.aload_n 0, 1) := by decide +kernel
theorem dX8_run_61 : decode cX8_run 61 = .ok (.getfield 76, 3) := by decide +kernel
theorem dX8_run_64 : decode cX8_run 64 = .ok (.getfield 210, 3) := by decide +kernel
theorem dX8_run_67 : decode cX8_run 67 = .ok (.invokevirtual 213, 3) := by decide +kernel
theorem dX8_run_70 : decode cX8_run 70 = .ok (.ifCond .ne 6, 3) := by decide +kernel
theorem dX8_run_73 : decode cX8_run 73 = .ok (.ldc 98, 2) := by decide +kernel
theorem dX8_run_75 : decode cX8_run 75 = .ok (.ireturn, 1) := by decide +kernel
theorem dX8_run_76 : decode cX8_run 76 = .ok (.iconst 0, 1) := by decide +kernel
theorem dX8_run_77 : decode cX8_run 77 = .ok (.istore 4, 2) := by decide +kernel
theorem dX8_run_79 : decode cX8_run 79 = .ok (.iload 4, 2) := by decide +kernel
theorem dX8_run_81 : decode cX8_run 81 = .ok (.aload_n 0, 1) := by decide +kernel
theorem dX8_run_82 : decode cX8_run 82 = .ok (.getfield 76, 3) := by decide +kernel
theorem dX8_run_85 : decode cX8_run 85 = .ok (.getfield 210, 3) := by decide +kernel
theorem dX8_run_88 : decode cX8_run 88 = .ok (.if_icmp .ge 28, 3) := by decide +kernel
theorem dX8_run_91 : decode cX8_run 91 = .ok (.aload_n 0, 1) := by decide +kernel
theorem dX8_run_92 : decode cX8_run 92 = .ok (.getfield 36, 3) := by decide +kernel
theorem dX8_run_95 : decode cX8_run 95 = .ok (.iload 4, 2) := by decide +kernel
theorem dX8_run_97 : decode cX8_run 97 = .ok (.aload_n 0, 1) := by decide +kernel
theorem dX8_run_98 : decode cX8_run 98 = .ok (.getfield 10, 3) := by decide +kernel
theorem dX8_run_101 : decode cX8_run 101 = .ok (.iload_n 1, 1) := by decide +kernel
theorem dX8_run_102 : decode cX8_run 102 = .ok (.iload_n 2, 1) := by decide +kernel
theorem dX8_run_103 : decode cX8_run 103 = .ok (.iload 4, 2) := by decide +kernel
theorem dX8_run_105 : decode cX8_run 105 = .ok (.iadd, 1) := by decide +kernel
theorem dX8_run_106 : decode cX8_run 106 = .ok (.invokevirtual 217, 3) := by decide +kernel
theorem dX8_run_109 : decode cX8_run 109 = .ok (.iastore, 1) := by decide +kernel
theorem dX8_run_110 : decode cX8_run 110 = .ok (.iinc 4 1, 3) := by decide +kernel
theorem dX8_run_113 : decode cX8_run 113 = .ok (.goto (-34), 3) := by decide +kernel
theorem dX8_run_116 : decode cX8_run 116 = .ok (.aload_n 0, 1) := by decide +kernel
theorem dX8_run_117 : decode cX8_run 117 = .ok (.aload_n 0, 1) := by decide +kernel
theorem dX8_run_118 : decode cX8_run 118 = .ok (.invokevirtual 220, 3) := by decide +kernel
theorem dX8_run_121 : decode cX8_run 121 = .ok (.invokevirtual 107, 3) := by decide +kernel
theorem dX8_run_124 : decode cX8_run 124 = .ok (.ireturn, 1) := by decide +kernel
theorem dX8_runs_0 : decode cX8_runs 0 = .ok (.aload_n 0, 1) := by decide +kernel
theorem dX8_runs_1 : decode cX8_runs 1 = .ok (.getfield 76, 3) := by decide +kernel
theorem dX8_runs_4 : decode cX8_runs 4 = .ok (.invokevirtual 205, 3) := by decide +kernel
theorem dX8_runs_7 : decode cX8_runs 7 = .ok (.ifCond .eq 6, 3) := by decide +kernel
theorem dX8_runs_10 : decode cX8_runs 10 = .ok (.ldc 209, 2) := by decide +kernel
theorem dX8_runs_12 : decode cX8_runs 12 = .ok (.ireturn, 1) := by decide +kernel
theorem dX8_runs_13 : decode cX8_runs 13 = .ok (.getstatic 163, 3) := by decide +kernel
theorem dX8_runs_16 : decode cX8_runs 16 = .ok (.iconst 0, 1) := by decide +kernel
theorem dX8_runs_17 : decode cX8_runs 17 = .ok (.aload_n 0, 1) := by decide +kernel
theorem dX8_runs_18 : decode cX8_runs 18 = .ok (.getfield 36, 3) := by decide +kernel
theorem dX8_runs_21 : decode cX8_runs 21 = .ok (.iconst 0, 1) := by decide +kernel
theorem dX8_runs_22 : decode cX8_runs 22 = .ok (.bipush 6, 2) := by decide +kernel
theorem dX8_runs_24 : decode cX8_runs 24 = .ok (.invokestatic 166, 3) := by decide +kernel
theorem dX8_runs_27 : decode cX8_runs 27 = .ok (.aload_n 0, 1) := by decide +kernel
theorem dX8_runs_28 : decode cX8_runs 28 = .ok (.invokevirtual 220, 3) := by decide +kernel
theorem dX8_runs_31 : decode cX8_runs 31 = .ok (.ireturn, 1) := by decide +kernel
theorem dX8_standByOrder_0 : decode cX8_standByOrder 0 = .ok (.aload_n 0, 1) := by decide +kernel
theorem dX8_standByOrder_1 : decode cX8_standByOrder 1 = .ok (.iconst 1, 1) := by decide +kernel
theorem dX8_standByOrder_2 : decode cX8_standByOrder 2 = .ok (.putfield 83, 3) := by decide +kernel
theorem dX8_standByOrder_5 : decode cX8_standByOrder 5 = .ok (.aload_n 0, 1) := by decide +kernel
theorem dX8_standByOrder_6 : decode cX8_standByOrder 6 = .ok (.getfield 45, 3) := by decide +kernel
theorem dX8_standByOrder_9 : decode cX8_standByOrder 9 = .ok (.aload_n 0, 1) := by decide +kernel
theorem dX8_standByOrder_10 : decode cX8_standByOrder 10 = .ok (.getfield 76, 3) := by decide +kernel
theorem dX8_standByOrder_13 : decode cX8_standByOrder 13 = .ok (.aload_n 0, 1) := by decide +kernel
theorem dX8_standByOrder_14 : decode cX8_standByOrder 14 = .ok (.getfield 32, 3) := by decide +kernel
theorem dX8_standByOrder_17 : decode cX8_standByOrder 17 = .ok (.aload_n 0, 1) := by decide +kernel
theorem dX8_standByOrder_18 : decode cX8_standByOrder 18 = .ok (.getfield 36, 3) := by decide +kernel
theorem dX8_standByOrder_21 : decode cX8_standByOrder 21 = .ok (.iconst (-1), 1) := by decide +kernel
theorem dX8_standByOrder_22 : decode cX8_standByOrder 22 = .ok (.invokevirtual 223, 3) := by decide +kernel
theorem dX8_standByOrder_25 : decode cX8_standByOrder 25 = .ok (.aload_n 0, 1) := by decide +kernel
theorem dX8_standByOrder_26 : decode cX8_standByOrder 26 = .ok (.getfield 45, 3) := by decide +kernel
theorem dX8_standByOrder_29 : decode cX8_standByOrder 29 = .ok (.invokevirtual 227, 3) := by decide +kernel
theorem dX8_standByOrder_32 : decode cX8_standByOrder 32 = .ok (.ireturn, 1) := by decide +kernel
theorem dX8_cell_0 : decode cX8_cell 0 = .ok (.aload_n 0, 1) := by decide +kernel
theorem dX8_cell_1 : decode cX8_cell 1 = .ok (.getfield 76, 3) := by decide +kernel
theorem dX8_cell_4 : decode cX8_cell 4 = .ok (.iload_n 1, 1) := by decide +kernel
theorem dX8_cell_5 : decode cX8_cell 5 = .ok (.invokevirtual 202, 3) := by decide +kernel
theorem dX8_cell_8 : decode cX8_cell 8 = .ok (.ifCond .ne 6, 3) := by decide +kernel
theorem dX8_cell_11 : decode cX8_cell 11 = .ok (.ldc 98, 2) := by decide +kernel
theorem dX8_cell_13 : decode cX8_cell 13 = .ok (.ireturn, 1) := by decide +kernel
theorem dX8_cell_14 : decode cX8_cell 14 = .ok (.iload_n 2, 1) := by decide +kernel
theorem dX8_cell_15 : decode cX8_cell 15 = .ok (.tableswitch 67 0 3 #[29, 38, 48, 58], 29) := by decide +kernel
theorem dX8_cell_44 : decode cX8_cell 44 = .ok (.aload_n 0, 1) := by decide +kernel
theorem dX8_cell_45 : decode cX8_cell 45 = .ok (.getfield 45, 3) := by decide +kernel
theorem dX8_cell_48 : decode cX8_cell 48 = .ok (.iload_n 1, 1) := by decide +kernel
theorem dX8_cell_49 : decode cX8_cell 49 = .ok (.invokevirtual 230, 3) := by decide +kernel
theorem dX8_cell_52 : decode cX8_cell 52 = .ok (.ireturn, 1) := by decide +kernel
theorem dX8_cell_53 : decode cX8_cell 53 = .ok (.aload_n 0, 1) := by decide +kernel
theorem dX8_cell_54 : decode cX8_cell 54 = .ok (.getfield 45, 3) := by decide +kernel
theorem dX8_cell_57 : decode cX8_cell 57 = .ok (.getfield 233, 3) := by decide +kernel
theorem dX8_cell_60 : decode cX8_cell 60 = .ok (.iload_n 1, 1) := by decide +kernel
theorem dX8_cell_61 : decode cX8_cell 61 = .ok (.iaload, 1) := by decide +kernel
theorem dX8_cell_62 : decode cX8_cell 62 = .ok (.ireturn, 1) := by decide +kernel
theorem dX8_cell_63 : decode cX8_cell 63 = .ok (.aload_n 0, 1) := by decide +kernel
theorem dX8_cell_64 : decode cX8_cell 64 = .ok (.getfield 45, 3) := by decide +kernel
theorem dX8_cell_67 : decode cX8_cell 67 = .ok (.getfield 236, 3) := by decide +kernel
theorem dX8_cell_70 : decode cX8_cell 70 = .ok (.iload_n 1, 1) := by decide +kernel
theorem dX8_cell_71 : decode cX8_cell 71 = .ok (.iaload, 1) := by decide +kernel
theorem dX8_cell_72 : decode cX8_cell 72 = .ok (.ireturn, 1) := by decide +kernel
theorem dX8_cell_73 : decode cX8_cell 73 = .ok (.aload_n 0, 1) := by decide +kernel
theorem dX8_cell_74 : decode cX8_cell 74 = .ok (.getfield 45, 3) := by decide +kernel
theorem dX8_cell_77 : decode cX8_cell 77 = .ok (.iload_n 1, 1) := by decide +kernel
theorem dX8_cell_78 : decode cX8_cell 78 = .ok (.invokevirtual 239, 3) := by decide +kernel
theorem dX8_cell_81 : decode cX8_cell 81 = .ok (.ireturn, 1) := by decide +kernel
theorem dX8_cell_82 : decode cX8_cell 82 = .ok (.ldc 98, 2) := by decide +kernel
theorem dX8_cell_84 : decode cX8_cell 84 = .ok (.ireturn, 1) := by decide +kernel
theorem dX8_height_0 : decode cX8_height 0 = .ok (.aload_n 0, 1) := by decide +kernel
theorem dX8_height_1 : decode cX8_height 1 = .ok (.getfield 76, 3) := by decide +kernel
theorem dX8_height_4 : decode cX8_height 4 = .ok (.invokevirtual 205, 3) := by decide +kernel
theorem dX8_height_7 : decode cX8_height 7 = .ok (.ifCond .eq 6, 3) := by decide +kernel
theorem dX8_height_10 : decode cX8_height 10 = .ok (.ldc 209, 2) := by decide +kernel
theorem dX8_height_12 : decode cX8_height 12 = .ok (.ireturn, 1) := by decide +kernel
theorem dX8_height_13 : decode cX8_height 13 = .ok (.iload_n 1, 1) := by decide +kernel
theorem dX8_height_14 : decode cX8_height 14 = .ok (.ifCond .lt 14, 3) := by decide +kernel
theorem dX8_height_17 : decode cX8_height 17 = .ok (.iload_n 1, 1) := by decide +kernel
theorem dX8_height_18 : decode cX8_height 18 = .ok (.aload_n 0, 1) := by decide +kernel
theorem dX8_height_19 : decode cX8_height 19 = .ok (.getfield 76, 3) := by decide +kernel
theorem dX8_height_22 : decode cX8_height 22 = .ok (.getfield 172, 3) := by decide +kernel
theorem dX8_height_25 : decode cX8_height 25 = .ok (.if_icmp .le 6, 3) := by decide +kernel
theorem dX8_height_28 : decode cX8_height 28 = .ok (.ldc 98, 2) := by decide +kernel
theorem dX8_height_30 : decode cX8_height 30 = .ok (.ireturn, 1) := by decide +kernel
theorem dX8_height_31 : decode cX8_height 31 = .ok (.aload_n 0, 1) := by decide +kernel
theorem dX8_height_32 : decode cX8_height 32 = .ok (.getfield 45, 3) := by decide +kernel
theorem dX8_height_35 : decode cX8_height 35 = .ok (.iload_n 1, 1) := by decide +kernel
theorem dX8_height_36 : decode cX8_height 36 = .ok (.invokevirtual 242, 3) := by decide +kernel
theorem dX8_height_39 : decode cX8_height 39 = .ok (.ireturn, 1) := by decide +kernel
theorem dX8_minutes_0 : decode cX8_minutes 0 = .ok (.aload_n 0, 1) := by decide +kernel
theorem dX8_minutes_1 : decode cX8_minutes 1 = .ok (.getfield 45, 3) := by decide +kernel
theorem dX8_minutes_4 : decode cX8_minutes 4 = .ok (.getfield 245, 3) := by decide +kernel
theorem dX8_minutes_7 : decode cX8_minutes 7 = .ok (.ireturn, 1) := by decide +kernel
theorem dX8_gives_0 : decode cX8_gives 0 = .ok (.aload_n 0, 1) := by decide +kernel
theorem dX8_gives_1 : decode cX8_gives 1 = .ok (.getfield 76, 3) := by decide +kernel
theorem dX8_gives_4 : decode cX8_gives 4 = .ok (.iload_n 1, 1) := by decide +kernel
theorem dX8_gives_5 : decode cX8_gives 5 = .ok (.invokevirtual 248, 3) := by decide +kernel
theorem dX8_gives_8 : decode cX8_gives 8 = .ok (.ifCond .ne 6, 3) := by decide +kernel
theorem dX8_gives_11 : decode cX8_gives 11 = .ok (.ldc 98, 2) := by decide +kernel
theorem dX8_gives_13 : decode cX8_gives 13 = .ok (.ireturn, 1) := by decide +kernel
theorem dX8_gives_14 : decode cX8_gives 14 = .ok (.aload_n 0, 1) := by decide +kernel
theorem dX8_gives_15 : decode cX8_gives 15 = .ok (.getfield 49, 3) := by decide +kernel
theorem dX8_gives_18 : decode cX8_gives 18 = .ok (.aload_n 0, 1) := by decide +kernel
theorem dX8_gives_19 : decode cX8_gives 19 = .ok (.getfield 76, 3) := by decide +kernel
theorem dX8_gives_22 : decode cX8_gives 22 = .ok (.aload_n 0, 1) := by decide +kernel
theorem dX8_gives_23 : decode cX8_gives 23 = .ok (.getfield 32, 3) := by decide +kernel
theorem dX8_gives_26 : decode cX8_gives 26 = .ok (.aload_n 0, 1) := by decide +kernel
theorem dX8_gives_27 : decode cX8_gives 27 = .ok (.getfield 36, 3) := by decide +kernel
theorem dX8_gives_30 : decode cX8_gives 30 = .ok (.iconst (-1), 1) := by decide +kernel
theorem dX8_gives_31 : decode cX8_gives 31 = .ok (.invokevirtual 223, 3) := by decide +kernel
theorem dX8_gives_34 : decode cX8_gives 34 = .ok (.aload_n 0, 1) := by decide +kernel
theorem dX8_gives_35 : decode cX8_gives 35 = .ok (.getfield 49, 3) := by decide +kernel
theorem dX8_gives_38 : decode cX8_gives 38 = .ok (.invokevirtual 227, 3) := by decide +kernel
theorem dX8_gives_41 : decode cX8_gives 41 = .ok (.istore_n 2, 1) := by decide +kernel
theorem dX8_gives_42 : decode cX8_gives 42 = .ok (.aload_n 0, 1) := by decide +kernel
theorem dX8_gives_43 : decode cX8_gives 43 = .ok (.getfield 49, 3) := by decide +kernel
theorem dX8_gives_46 : decode cX8_gives 46 = .ok (.aload_n 0, 1) := by decide +kernel
theorem dX8_gives_47 : decode cX8_gives 47 = .ok (.getfield 76, 3) := by decide +kernel
theorem dX8_gives_50 : decode cX8_gives 50 = .ok (.aload_n 0, 1) := by decide +kernel
theorem dX8_gives_51 : decode cX8_gives 51 = .ok (.getfield 32, 3) := by decide +kernel
theorem dX8_gives_54 : decode cX8_gives 54 = .ok (.aload_n 0, 1) := by decide +kernel
theorem dX8_gives_55 : decode cX8_gives 55 = .ok (.getfield 36, 3) := by decide +kernel
theorem dX8_gives_58 : decode cX8_gives 58 = .ok (.iload_n 1, 1) := by decide +kernel
theorem dX8_gives_59 : decode cX8_gives 59 = .ok (.invokevirtual 223, 3) := by decide +kernel
theorem dX8_gives_62 : decode cX8_gives 62 = .ok (.iload_n 2, 1) := by decide +kernel
theorem dX8_gives_63 : decode cX8_gives 63 = .ok (.aload_n 0, 1) := by decide +kernel
theorem dX8_gives_64 : decode cX8_gives 64 = .ok (.getfield 49, 3) := by decide +kernel
theorem dX8_gives_67 : decode cX8_gives 67 = .ok (.invokevirtual 227, 3) := by decide +kernel
theorem dX8_gives_70 : decode cX8_gives 70 = .ok (.isub, 1) := by decide +kernel
theorem dX8_gives_71 : decode cX8_gives 71 = .ok (.ireturn, 1) := by decide +kernel
theorem dX8_best_0 : decode cX8_best 0 = .ok (.iload_n 1, 1) := by decide +kernel
theorem dX8_best_1 : decode cX8_best 1 = .ok (.iconst (-1), 1) := by decide +kernel
theorem dX8_best_2 : decode cX8_best 2 = .ok (.if_icmp .ge 6, 3) := by decide +kernel
theorem dX8_best_5 : decode cX8_best 5 = .ok (.ldc 98, 2) := by decide +kernel
theorem dX8_best_7 : decode cX8_best 7 = .ok (.ireturn, 1) := by decide +kernel
theorem dX8_best_8 : decode cX8_best 8 = .ok (.aload_n 0, 1) := by decide +kernel
theorem dX8_best_9 : decode cX8_best 9 = .ok (.getfield 76, 3) := by decide +kernel
theorem dX8_best_12 : decode cX8_best 12 = .ok (.invokevirtual 205, 3) := by decide +kernel
theorem dX8_best_15 : decode cX8_best 15 = .ok (.ifCond .eq 6, 3) := by decide +kernel
theorem dX8_best_18 : decode cX8_best 18 = .ok (.ldc 209, 2) := by decide +kernel
theorem dX8_best_20 : decode cX8_best 20 = .ok (.ireturn, 1) := by decide +kernel
theorem dX8_best_21 : decode cX8_best 21 = .ok (.aload_n 0, 1) := by decide +kernel
theorem dX8_best_22 : decode cX8_best 22 = .ok (.getfield 55, 3) := by decide +kernel
theorem dX8_best_25 : decode cX8_best 25 = .ok (.aload_n 0, 1) := by decide +kernel
theorem dX8_best_26 : decode cX8_best 26 = .ok (.getfield 76, 3) := by decide +kernel
theorem dX8_best_29 : decode cX8_best 29 = .ok (.aload_n 0, 1) := by decide +kernel
theorem dX8_best_30 : decode cX8_best 30 = .ok (.getfield 32, 3) := by decide +kernel
theorem dX8_best_33 : decode cX8_best 33 = .ok (.invokevirtual 251, 3) := by decide +kernel
theorem dX8_best_36 : decode cX8_best 36 = .ok (.aload_n 0, 1) := by decide +kernel
theorem dX8_best_37 : decode cX8_best 37 = .ok (.getfield 55, 3) := by decide +kernel
theorem dX8_best_40 : decode cX8_best 40 = .ok (.getfield 255, 3) := by decide +kernel
theorem dX8_best_43 : decode cX8_best 43 = .ok (.ifCond .ne 6, 3) := by decide +kernel
theorem dX8_best_46 : decode cX8_best 46 = .ok (.ldc 198, 2) := by decide +kernel
theorem dX8_best_48 : decode cX8_best 48 = .ok (.ireturn, 1) := by decide +kernel
theorem dX8_best_49 : decode cX8_best 49 = .ok (.iload_n 1, 1) := by decide +kernel
theorem dX8_best_50 : decode cX8_best 50 = .ok (.iconst (-1), 1) := by decide +kernel
theorem dX8_best_51 : decode cX8_best 51 = .ok (.if_icmp .ne 11, 3) := by decide +kernel
theorem dX8_best_54 : decode cX8_best 54 = .ok (.aload_n 0, 1) := by decide +kernel
theorem dX8_best_55 : decode cX8_best 55 = .ok (.getfield 55, 3) := by decide +kernel
theorem dX8_best_58 : decode cX8_best 58 = .ok (.getfield 258, 3) := by decide +kernel
theorem dX8_best_61 : decode cX8_best 61 = .ok (.ireturn, 1) := by decide +kernel
theorem dX8_best_62 : decode cX8_best 62 = .ok (.aload_n 0, 1) := by decide +kernel
theorem dX8_best_63 : decode cX8_best 63 = .ok (.getfield 76, 3) := by decide +kernel
theorem dX8_best_66 : decode cX8_best 66 = .ok (.iload_n 1, 1) := by decide +kernel
theorem dX8_best_67 : decode cX8_best 67 = .ok (.invokevirtual 248, 3) := by decide +kernel
theorem dX8_best_70 : decode cX8_best 70 = .ok (.ifCond .eq 15, 3) := by decide +kernel
theorem dX8_best_73 : decode cX8_best 73 = .ok (.aload_n 0, 1) := by decide +kernel
theorem dX8_best_74 : decode cX8_best 74 = .ok (.getfield 55, 3) := by decide +kernel
theorem dX8_best_77 : decode cX8_best 77 = .ok (.getfield 261, 3) := by decide +kernel
theorem dX8_best_80 : decode cX8_best 80 = .ok (.iload_n 1, 1) := by decide +kernel
theorem dX8_best_81 : decode cX8_best 81 = .ok (.iaload, 1) := by decide +kernel
theorem dX8_best_82 : decode cX8_best 82 = .ok (.goto 5, 3) := by decide +kernel
theorem dX8_best_85 : decode cX8_best 85 = .ok (.ldc 198, 2) := by decide +kernel
theorem dX8_best_87 : decode cX8_best 87 = .ok (.ireturn, 1) := by decide +kernel
theorem dX8_orders_0 : decode cX8_orders 0 = .ok (.aload_n 0, 1) := by decide +kernel
theorem dX8_orders_1 : decode cX8_orders 1 = .ok (.getfield 76, 3) := by decide +kernel
theorem dX8_orders_4 : decode cX8_orders 4 = .ok (.invokevirtual 205, 3) := by decide +kernel
theorem dX8_orders_7 : decode cX8_orders 7 = .ok (.ifCond .eq 6, 3) := by decide +kernel
theorem dX8_orders_10 : decode cX8_orders 10 = .ok (.ldc 209, 2) := by decide +kernel
theorem dX8_orders_12 : decode cX8_orders 12 = .ok (.ireturn, 1) := by decide +kernel
theorem dX8_orders_13 : decode cX8_orders 13 = .ok (.aload_n 0, 1) := by decide +kernel
theorem dX8_orders_14 : decode cX8_orders 14 = .ok (.getfield 55, 3) := by decide +kernel
theorem dX8_orders_17 : decode cX8_orders 17 = .ok (.aload_n 0, 1) := by decide +kernel
theorem dX8_orders_18 : decode cX8_orders 18 = .ok (.getfield 76, 3) := by decide +kernel
theorem dX8_orders_21 : decode cX8_orders 21 = .ok (.invokevirtual 264, 3) := by decide +kernel
theorem dX8_orders_24 : decode cX8_orders 24 = .ok (.ireturn, 1) := by decide +kernel
theorem dX8_beforehand_0 : decode cX8_beforehand 0 = .ok (.aload_n 0, 1) := by decide +kernel
theorem dX8_beforehand_1 : decode cX8_beforehand 1 = .ok (.getfield 76, 3) := by decide +kernel
theorem dX8_beforehand_4 : decode cX8_beforehand 4 = .ok (.iload_n 1, 1) := by decide +kernel
theorem dX8_beforehand_5 : decode cX8_beforehand 5 = .ok (.invokevirtual 202, 3) := by decide +kernel
theorem dX8_beforehand_8 : decode cX8_beforehand 8 = .ok (.ifCond .ne 6, 3) := by decide +kernel
theorem dX8_beforehand_11 : decode cX8_beforehand 11 = .ok (.ldc 98, 2) := by decide +kernel
theorem dX8_beforehand_13 : decode cX8_beforehand 13 = .ok (.ireturn, 1) := by decide +kernel
theorem dX8_beforehand_14 : decode cX8_beforehand 14 = .ok (.aload_n 0, 1) := by decide +kernel
theorem dX8_beforehand_15 : decode cX8_beforehand 15 = .ok (.getfield 62, 3) := by decide +kernel
theorem dX8_beforehand_18 : decode cX8_beforehand 18 = .ok (.aload_n 0, 1) := by decide +kernel
theorem dX8_beforehand_19 : decode cX8_beforehand 19 = .ok (.getfield 76, 3) := by decide +kernel
theorem dX8_beforehand_22 : decode cX8_beforehand 22 = .ok (.aload_n 0, 1) := by decide +kernel
theorem dX8_beforehand_23 : decode cX8_beforehand 23 = .ok (.getfield 49, 3) := by decide +kernel
theorem dX8_beforehand_26 : decode cX8_beforehand 26 = .ok (.invokevirtual 267, 3) := by decide +kernel
theorem dX8_beforehand_29 : decode cX8_beforehand 29 = .ok (.aload_n 0, 1) := by decide +kernel
theorem dX8_beforehand_30 : decode cX8_beforehand 30 = .ok (.getfield 62, 3) := by decide +kernel
theorem dX8_beforehand_33 : decode cX8_beforehand 33 = .ok (.getfield 270, 3) := by decide +kernel
theorem dX8_beforehand_36 : decode cX8_beforehand 36 = .ok (.iload_n 1, 1) := by decide +kernel
theorem dX8_beforehand_37 : decode cX8_beforehand 37 = .ok (.iaload, 1) := by decide +kernel
theorem dX8_beforehand_38 : decode cX8_beforehand 38 = .ok (.ireturn, 1) := by decide +kernel
theorem dX8_spots_0 : decode cX8_spots 0 = .ok (.iload_n 1, 1) := by decide +kernel
theorem dX8_spots_1 : decode cX8_spots 1 = .ok (.iconst 1, 1) := by decide +kernel
theorem dX8_spots_2 : decode cX8_spots 2 = .ok (.if_icmp .lt 19, 3) := by decide +kernel
theorem dX8_spots_5 : decode cX8_spots 5 = .ok (.iload_n 1, 1) := by decide +kernel
theorem dX8_spots_6 : decode cX8_spots 6 = .ok (.bipush 20, 2) := by decide +kernel
theorem dX8_spots_8 : decode cX8_spots 8 = .ok (.if_icmp .gt 13, 3) := by decide +kernel
theorem dX8_spots_11 : decode cX8_spots 11 = .ok (.iload_n 2, 1) := by decide +kernel
theorem dX8_spots_12 : decode cX8_spots 12 = .ok (.ifCond .lt 9, 3) := by decide +kernel
theorem dX8_spots_15 : decode cX8_spots 15 = .ok (.iload_n 2, 1) := by decide +kernel
theorem dX8_spots_16 : decode cX8_spots 16 = .ok (.bipush 40, 2) := by decide +kernel
theorem dX8_spots_18 : decode cX8_spots 18 = .ok (.if_icmp .le 6, 3) := by decide +kernel
theorem dX8_spots_21 : decode cX8_spots 21 = .ok (.ldc 98, 2) := by decide +kernel
theorem dX8_spots_23 : decode cX8_spots 23 = .ok (.ireturn, 1) := by decide +kernel
theorem dX8_spots_24 : decode cX8_spots 24 = .ok (.aload_n 0, 1) := by decide +kernel
theorem dX8_spots_25 : decode cX8_spots 25 = .ok (.getfield 76, 3) := by decide +kernel
theorem dX8_spots_28 : decode cX8_spots 28 = .ok (.invokevirtual 205, 3) := by decide +kernel
theorem dX8_spots_31 : decode cX8_spots 31 = .ok (.ifCond .eq 6, 3) := by decide +kernel
theorem dX8_spots_34 : decode cX8_spots 34 = .ok (.ldc 209, 2) := by decide +kernel
theorem dX8_spots_36 : decode cX8_spots 36 = .ok (.ireturn, 1) := by decide +kernel
theorem dX8_spots_37 : decode cX8_spots 37 = .ok (.ldc 198, 2) := by decide +kernel
theorem dX8_spots_39 : decode cX8_spots 39 = .ok (.istore_n 3, 1) := by decide +kernel
theorem dX8_spots_40 : decode cX8_spots 40 = .ok (.iconst 4, 1) := by decide +kernel
theorem dX8_spots_41 : decode cX8_spots 41 = .ok (.istore 4, 2) := by decide +kernel
theorem dX8_spots_43 : decode cX8_spots 43 = .ok (.iconst 0, 1) := by decide +kernel
theorem dX8_spots_44 : decode cX8_spots 44 = .ok (.istore 5, 2) := by decide +kernel
theorem dX8_spots_46 : decode cX8_spots 46 = .ok (.iload 5, 2) := by decide +kernel
theorem dX8_spots_48 : decode cX8_spots 48 = .ok (.iconst 1, 1) := by decide +kernel
theorem dX8_spots_49 : decode cX8_spots 49 = .ok (.aload_n 0, 1) := by decide +kernel
theorem dX8_spots_50 : decode cX8_spots 50 = .ok (.getfield 76, 3) := by decide +kernel
theorem dX8_spots_53 : decode cX8_spots 53 = .ok (.getfield 172, 3) := by decide +kernel
theorem dX8_spots_56 : decode cX8_spots 56 = .ok (.ishl, 1) := by decide +kernel
theorem dX8_spots_57 : decode cX8_spots 57 = .ok (.if_icmp .ge 41, 3) := by decide +kernel
theorem dX8_spots_60 : decode cX8_spots 60 = .ok (.iload 5, 2) := by decide +kernel
theorem dX8_spots_62 : decode cX8_spots 62 = .ok (.invokestatic 273, 3) := by decide +kernel
theorem dX8_spots_65 : decode cX8_spots 65 = .ok (.istore 6, 2) := by decide +kernel
theorem dX8_spots_67 : decode cX8_spots 67 = .ok (.iload 6, 2) := by decide +kernel
theorem dX8_spots_69 : decode cX8_spots 69 = .ok (.iload 4, 2) := by decide +kernel
theorem dX8_spots_71 : decode cX8_spots 71 = .ok (.if_icmp .ge 21, 3) := by decide +kernel
theorem dX8_spots_74 : decode cX8_spots 74 = .ok (.aload_n 0, 1) := by decide +kernel
theorem dX8_spots_75 : decode cX8_spots 75 = .ok (.iload 5, 2) := by decide +kernel
theorem dX8_spots_77 : decode cX8_spots 77 = .ok (.iload_n 1, 1) := by decide +kernel
theorem dX8_spots_78 : decode cX8_spots 78 = .ok (.iload_n 2, 1) := by decide +kernel
theorem dX8_spots_79 : decode cX8_spots 79 = .ok (.invokevirtual 278, 3) := by decide +kernel
theorem dX8_spots_82 : decode cX8_spots 82 = .ok (.ifCond .eq 10, 3) := by decide +kernel
theorem dX8_spots_85 : decode cX8_spots 85 = .ok (.iload 6, 2) := by decide +kernel
theorem dX8_spots_87 : decode cX8_spots 87 = .ok (.istore 4, 2) := by decide +kernel
theorem dX8_spots_89 : decode cX8_spots 89 = .ok (.iload 5, 2) := by decide +kernel
theorem dX8_spots_91 : decode cX8_spots 91 = .ok (.istore_n 3, 1) := by decide +kernel
theorem dX8_spots_92 : decode cX8_spots 92 = .ok (.iinc 5 1, 3) := by decide +kernel
theorem dX8_spots_95 : decode cX8_spots 95 = .ok (.goto (-49), 3) := by decide +kernel
theorem dX8_spots_98 : decode cX8_spots 98 = .ok (.iload_n 3, 1) := by decide +kernel
theorem dX8_spots_99 : decode cX8_spots 99 = .ok (.ireturn, 1) := by decide +kernel
theorem dX8_drawDown_0 : decode cX8_drawDown 0 = .ok (.aload_n 0, 1) := by decide +kernel
theorem dX8_drawDown_1 : decode cX8_drawDown 1 = .ok (.getfield 45, 3) := by decide +kernel
theorem dX8_drawDown_4 : decode cX8_drawDown 4 = .ok (.getfield 236, 3) := by decide +kernel
theorem dX8_drawDown_7 : decode cX8_drawDown 7 = .ok (.iconst 0, 1) := by decide +kernel
theorem dX8_drawDown_8 : decode cX8_drawDown 8 = .ok (.aload_n 0, 1) := by decide +kernel
theorem dX8_drawDown_9 : decode cX8_drawDown 9 = .ok (.getfield 39, 3) := by decide +kernel
theorem dX8_drawDown_12 : decode cX8_drawDown 12 = .ok (.iconst 0, 1) := by decide +kernel
theorem dX8_drawDown_13 : decode cX8_drawDown 13 = .ok (.bipush 12, 2) := by decide +kernel
theorem dX8_drawDown_15 : decode cX8_drawDown 15 = .ok (.invokestatic 166, 3) := by decide +kernel
theorem dX8_drawDown_18 : decode cX8_drawDown 18 = .ok (.iconst 0, 1) := by decide +kernel
theorem dX8_drawDown_19 : decode cX8_drawDown 19 = .ok (.istore 4, 2) := by decide +kernel
theorem dX8_drawDown_21 : decode cX8_drawDown 21 = .ok (.iload 4, 2) := by decide +kernel
theorem dX8_drawDown_23 : decode cX8_drawDown 23 = .ok (.aload_n 0, 1) := by decide +kernel
theorem dX8_drawDown_24 : decode cX8_drawDown 24 = .ok (.getfield 76, 3) := by decide +kernel
theorem dX8_drawDown_27 : decode cX8_drawDown 27 = .ok (.getfield 172, 3) := by decide +kernel
theorem dX8_drawDown_30 : decode cX8_drawDown 30 = .ok (.if_icmp .ge 26, 3) := by decide +kernel
theorem dX8_drawDown_33 : decode cX8_drawDown 33 = .ok (.iload_n 1, 1) := by decide +kernel
theorem dX8_drawDown_34 : decode cX8_drawDown 34 = .ok (.iload 4, 2) := by decide +kernel
theorem dX8_drawDown_36 : decode cX8_drawDown 36 = .ok (.ishr, 1) := by decide +kernel
theorem dX8_drawDown_37 : decode cX8_drawDown 37 = .ok (.iconst 1, 1) := by decide +kernel
theorem dX8_drawDown_38 : decode cX8_drawDown 38 = .ok (.iand, 1) := by decide +kernel
theorem dX8_drawDown_39 : decode cX8_drawDown 39 = .ok (.iconst 1, 1) := by decide +kernel
theorem dX8_drawDown_40 : decode cX8_drawDown 40 = .ok (.if_icmp .ne 10, 3) := by decide +kernel
theorem dX8_drawDown_43 : decode cX8_drawDown 43 = .ok (.aload_n 0, 1) := by decide +kernel
theorem dX8_drawDown_44 : decode cX8_drawDown 44 = .ok (.iload 4, 2) := by decide +kernel
theorem dX8_drawDown_46 : decode cX8_drawDown 46 = .ok (.iload_n 2, 1) := by decide +kernel
theorem dX8_drawDown_47 : decode cX8_drawDown 47 = .ok (.invokevirtual 281, 3) := by decide +kernel
theorem dX8_drawDown_50 : decode cX8_drawDown 50 = .ok (.iinc 4 1, 3) := by decide +kernel
theorem dX8_drawDown_53 : decode cX8_drawDown 53 = .ok (.goto (-32), 3) := by decide +kernel
theorem dX8_drawDown_56 : decode cX8_drawDown 56 = .ok (.iconst 0, 1) := by decide +kernel
theorem dX8_drawDown_57 : decode cX8_drawDown 57 = .ok (.istore 4, 2) := by decide +kernel
theorem dX8_drawDown_59 : decode cX8_drawDown 59 = .ok (.iload 4, 2) := by decide +kernel
theorem dX8_drawDown_61 : decode cX8_drawDown 61 = .ok (.aload_n 0, 1) := by decide +kernel
theorem dX8_drawDown_62 : decode cX8_drawDown 62 = .ok (.getfield 76, 3) := by decide +kernel
theorem dX8_drawDown_65 : decode cX8_drawDown 65 = .ok (.getfield 172, 3) := by decide +kernel
theorem dX8_drawDown_68 : decode cX8_drawDown 68 = .ok (.if_icmp .ge 25, 3) := by decide +kernel
theorem dX8_drawDown_71 : decode cX8_drawDown 71 = .ok (.aload_n 0, 1) := by decide +kernel
theorem dX8_drawDown_72 : decode cX8_drawDown 72 = .ok (.getfield 39, 3) := by decide +kernel
theorem dX8_drawDown_75 : decode cX8_drawDown 75 = .ok (.iload 4, 2) := by decide +kernel
theorem dX8_drawDown_77 : decode cX8_drawDown 77 = .ok (.iaload, 1) := by decide +kernel
theorem dX8_drawDown_78 : decode cX8_drawDown 78 = .ok (.invokestatic 285, 3) := by decide +kernel
theorem dX8_drawDown_81 : decode cX8_drawDown 81 = .ok (.iload_n 3, 1) := by decide +kernel
theorem dX8_drawDown_82 : decode cX8_drawDown 82 = .ok (.if_icmp .le 5, 3) := by decide +kernel
theorem dX8_drawDown_85 : decode cX8_drawDown 85 = .ok (.iconst 0, 1) := by decide +kernel
theorem dX8_drawDown_86 : decode cX8_drawDown 86 = .ok (.ireturn, 1) := by decide +kernel
theorem dX8_drawDown_87 : decode cX8_drawDown 87 = .ok (.iinc 4 1, 3) := by decide +kernel
theorem dX8_drawDown_90 : decode cX8_drawDown 90 = .ok (.goto (-31), 3) := by decide +kernel
theorem dX8_drawDown_93 : decode cX8_drawDown 93 = .ok (.iconst 1, 1) := by decide +kernel
theorem dX8_drawDown_94 : decode cX8_drawDown 94 = .ok (.ireturn, 1) := by decide +kernel
theorem dX8_spotAt_0 : decode cX8_spotAt 0 = .ok (.aload_n 0, 1) := by decide +kernel
theorem dX8_spotAt_1 : decode cX8_spotAt 1 = .ok (.getfield 39, 3) := by decide +kernel
theorem dX8_spotAt_4 : decode cX8_spotAt 4 = .ok (.iload_n 1, 1) := by decide +kernel
theorem dX8_spotAt_5 : decode cX8_spotAt 5 = .ok (.iaload, 1) := by decide +kernel
theorem dX8_spotAt_6 : decode cX8_spotAt 6 = .ok (.ifCond .le 24, 3) := by decide +kernel
theorem dX8_spotAt_9 : decode cX8_spotAt 9 = .ok (.aload_n 0, 1) := by decide +kernel
theorem dX8_spotAt_10 : decode cX8_spotAt 10 = .ok (.getfield 39, 3) := by decide +kernel
theorem dX8_spotAt_13 : decode cX8_spotAt 13 = .ok (.iload_n 1, 1) := by decide +kernel
theorem dX8_spotAt_14 : decode cX8_spotAt 14 = .ok (.iconst 0, 1) := by decide +kernel
theorem dX8_spotAt_15 : decode cX8_spotAt 15 = .ok (.aload_n 0, 1) := by decide +kernel
theorem dX8_spotAt_16 : decode cX8_spotAt 16 = .ok (.getfield 39, 3) := by decide +kernel
theorem dX8_spotAt_19 : decode cX8_spotAt 19 = .ok (.iload_n 1, 1) := by decide +kernel
theorem dX8_spotAt_20 : decode cX8_spotAt 20 = .ok (.iaload, 1) := by decide +kernel
theorem dX8_spotAt_21 : decode cX8_spotAt 21 = .ok (.iload_n 2, 1) := by decide +kernel
theorem dX8_spotAt_22 : decode cX8_spotAt 22 = .ok (.isub, 1) := by decide +kernel
theorem dX8_spotAt_23 : decode cX8_spotAt 23 = .ok (.invokestatic 290, 3) := by decide +kernel
theorem dX8_spotAt_26 : decode cX8_spotAt 26 = .ok (.iastore, 1) := by decide +kernel
theorem dX8_spotAt_27 : decode cX8_spotAt 27 = .ok (.goto 21, 3) := by decide +kernel
theorem dX8_spotAt_30 : decode cX8_spotAt 30 = .ok (.aload_n 0, 1) := by decide +kernel
theorem dX8_spotAt_31 : decode cX8_spotAt 31 = .ok (.getfield 39, 3) := by decide +kernel
theorem dX8_spotAt_34 : decode cX8_spotAt 34 = .ok (.iload_n 1, 1) := by decide +kernel
theorem dX8_spotAt_35 : decode cX8_spotAt 35 = .ok (.iconst 0, 1) := by decide +kernel
theorem dX8_spotAt_36 : decode cX8_spotAt 36 = .ok (.aload_n 0, 1) := by decide +kernel
theorem dX8_spotAt_37 : decode cX8_spotAt 37 = .ok (.getfield 39, 3) := by decide +kernel
theorem dX8_spotAt_40 : decode cX8_spotAt 40 = .ok (.iload_n 1, 1) := by decide +kernel
theorem dX8_spotAt_41 : decode cX8_spotAt 41 = .ok (.iaload, 1) := by decide +kernel
theorem dX8_spotAt_42 : decode cX8_spotAt 42 = .ok (.iload_n 2, 1) := by decide +kernel
theorem dX8_spotAt_43 : decode cX8_spotAt 43 = .ok (.iadd, 1) := by decide +kernel
theorem dX8_spotAt_44 : decode cX8_spotAt 44 = .ok (.invokestatic 293, 3) := by decide +kernel
theorem dX8_spotAt_47 : decode cX8_spotAt 47 = .ok (.iastore, 1) := by decide +kernel
theorem dX8_spotAt_48 : decode cX8_spotAt 48 = .ok (.iload_n 1, 1) := by decide +kernel
theorem dX8_spotAt_49 : decode cX8_spotAt 49 = .ok (.ifCond .le 15, 3) := by decide +kernel
theorem dX8_spotAt_52 : decode cX8_spotAt 52 = .ok (.aload_n 0, 1) := by decide +kernel
theorem dX8_spotAt_53 : decode cX8_spotAt 53 = .ok (.getfield 39, 3) := by decide +kernel
theorem dX8_spotAt_56 : decode cX8_spotAt 56 = .ok (.iload_n 1, 1) := by decide +kernel
theorem dX8_spotAt_57 : decode cX8_spotAt 57 = .ok (.iconst 1, 1) := by decide +kernel
theorem dX8_spotAt_58 : decode cX8_spotAt 58 = .ok (.isub, 1) := by decide +kernel
theorem dX8_spotAt_59 : decode cX8_spotAt 59 = .ok (.dup2, 1) := by decide +kernel
theorem dX8_spotAt_60 : decode cX8_spotAt 60 = .ok (.iaload, 1) := by decide +kernel
theorem dX8_spotAt_61 : decode cX8_spotAt 61 = .ok (.iconst 1, 1) := by decide +kernel
theorem dX8_spotAt_62 : decode cX8_spotAt 62 = .ok (.iadd, 1) := by decide +kernel
theorem dX8_spotAt_63 : decode cX8_spotAt 63 = .ok (.iastore, 1) := by decide +kernel
theorem dX8_spotAt_64 : decode cX8_spotAt 64 = .ok (.iload_n 1, 1) := by decide +kernel
theorem dX8_spotAt_65 : decode cX8_spotAt 65 = .ok (.iconst 1, 1) := by decide +kernel
theorem dX8_spotAt_66 : decode cX8_spotAt 66 = .ok (.iadd, 1) := by decide +kernel
theorem dX8_spotAt_67 : decode cX8_spotAt 67 = .ok (.aload_n 0, 1) := by decide +kernel
theorem dX8_spotAt_68 : decode cX8_spotAt 68 = .ok (.getfield 76, 3) := by decide +kernel
theorem dX8_spotAt_71 : decode cX8_spotAt 71 = .ok (.getfield 172, 3) := by decide +kernel
theorem dX8_spotAt_74 : decode cX8_spotAt 74 = .ok (.if_icmp .ge 15, 3) := by decide +kernel
theorem dX8_spotAt_77 : decode cX8_spotAt 77 = .ok (.aload_n 0, 1) := by decide +kernel
theorem dX8_spotAt_78 : decode cX8_spotAt 78 = .ok (.getfield 39, 3) := by decide +kernel
theorem dX8_spotAt_81 : decode cX8_spotAt 81 = .ok (.iload_n 1, 1) := by decide +kernel
theorem dX8_spotAt_82 : decode cX8_spotAt 82 = .ok (.iconst 1, 1) := by decide +kernel
theorem dX8_spotAt_83 : decode cX8_spotAt 83 = .ok (.iadd, 1) := by decide +kernel
theorem dX8_spotAt_84 : decode cX8_spotAt 84 = .ok (.dup2, 1) := by decide +kernel
theorem dX8_spotAt_85 : decode cX8_spotAt 85 = .ok (.iaload, 1) := by decide +kernel
theorem dX8_spotAt_86 : decode cX8_spotAt 86 = .ok (.iconst 1, 1) := by decide +kernel
theorem dX8_spotAt_87 : decode cX8_spotAt 87 = .ok (.iadd, 1) := by decide +kernel
theorem dX8_spotAt_88 : decode cX8_spotAt 88 = .ok (.iastore, 1) := by decide +kernel
theorem dX8_spotAt_89 : decode cX8_spotAt 89 = .ok (.return_, 1) := by decide +kernel
theorem dX8_crack_0 : decode cX8_crack 0 = .ok (.iload_n 1, 1) := by decide +kernel
theorem dX8_crack_1 : decode cX8_crack 1 = .ok (.ifCond .lt 9, 3) := by decide +kernel
theorem dX8_crack_4 : decode cX8_crack 4 = .ok (.iload_n 1, 1) := by decide +kernel
theorem dX8_crack_5 : decode cX8_crack 5 = .ok (.bipush 60, 2) := by decide +kernel
theorem dX8_crack_7 : decode cX8_crack 7 = .ok (.if_icmp .le 6, 3) := by decide +kernel
theorem dX8_crack_10 : decode cX8_crack 10 = .ok (.ldc 98, 2) := by decide +kernel
theorem dX8_crack_12 : decode cX8_crack 12 = .ok (.ireturn, 1) := by decide +kernel
theorem dX8_crack_13 : decode cX8_crack 13 = .ok (.aload_n 0, 1) := by decide +kernel
theorem dX8_crack_14 : decode cX8_crack 14 = .ok (.getfield 45, 3) := by decide +kernel
theorem dX8_crack_17 : decode cX8_crack 17 = .ok (.sipush 300, 3) := by decide +kernel
theorem dX8_crack_20 : decode cX8_crack 20 = .ok (.iconst 4, 1) := by decide +kernel
theorem dX8_crack_21 : decode cX8_crack 21 = .ok (.iload_n 1, 1) := by decide +kernel
theorem dX8_crack_22 : decode cX8_crack 22 = .ok (.imul, 1) := by decide +kernel
theorem dX8_crack_23 : decode cX8_crack 23 = .ok (.isub, 1) := by decide +kernel
theorem dX8_crack_24 : decode cX8_crack 24 = .ok (.invokevirtual 296, 3) := by decide +kernel
theorem dX8_crack_27 : decode cX8_crack 27 = .ok (.ireturn, 1) := by decide +kernel
theorem dX8_warm_0 : decode cX8_warm 0 = .ok (.aload_n 0, 1) := by decide +kernel
theorem dX8_warm_1 : decode cX8_warm 1 = .ok (.getfield 76, 3) := by decide +kernel
theorem dX8_warm_4 : decode cX8_warm 4 = .ok (.invokevirtual 205, 3) := by decide +kernel
theorem dX8_warm_7 : decode cX8_warm 7 = .ok (.ifCond .eq 6, 3) := by decide +kernel
theorem dX8_warm_10 : decode cX8_warm 10 = .ok (.ldc 209, 2) := by decide +kernel
theorem dX8_warm_12 : decode cX8_warm 12 = .ok (.ireturn, 1) := by decide +kernel
theorem dX8_warm_13 : decode cX8_warm 13 = .ok (.bipush 60, 2) := by decide +kernel
theorem dX8_warm_15 : decode cX8_warm 15 = .ok (.istore_n 1, 1) := by decide +kernel
theorem dX8_warm_16 : decode cX8_warm 16 = .ok (.iload_n 1, 1) := by decide +kernel
theorem dX8_warm_17 : decode cX8_warm 17 = .ok (.ifCond .lt 30, 3) := by decide +kernel
theorem dX8_warm_20 : decode cX8_warm 20 = .ok (.aload_n 0, 1) := by decide +kernel
theorem dX8_warm_21 : decode cX8_warm 21 = .ok (.getfield 45, 3) := by decide +kernel
theorem dX8_warm_24 : decode cX8_warm 24 = .ok (.sipush 300, 3) := by decide +kernel
theorem dX8_warm_27 : decode cX8_warm 27 = .ok (.iconst 4, 1) := by decide +kernel
theorem dX8_warm_28 : decode cX8_warm 28 = .ok (.iload_n 1, 1) := by decide +kernel
theorem dX8_warm_29 : decode cX8_warm 29 = .ok (.imul, 1) := by decide +kernel
theorem dX8_warm_30 : decode cX8_warm 30 = .ok (.isub, 1) := by decide +kernel
theorem dX8_warm_31 : decode cX8_warm 31 = .ok (.invokevirtual 296, 3) := by decide +kernel
theorem dX8_warm_34 : decode cX8_warm 34 = .ok (.ldc 198, 2) := by decide +kernel
theorem dX8_warm_36 : decode cX8_warm 36 = .ok (.if_icmp .ne 5, 3) := by decide +kernel
theorem dX8_warm_39 : decode cX8_warm 39 = .ok (.iload_n 1, 1) := by decide +kernel
theorem dX8_warm_40 : decode cX8_warm 40 = .ok (.ireturn, 1) := by decide +kernel
theorem dX8_warm_41 : decode cX8_warm 41 = .ok (.iinc 1 (-1), 3) := by decide +kernel
theorem dX8_warm_44 : decode cX8_warm 44 = .ok (.goto (-28), 3) := by decide +kernel
theorem dX8_warm_47 : decode cX8_warm 47 = .ok (.ldc 198, 2) := by decide +kernel
theorem dX8_warm_49 : decode cX8_warm 49 = .ok (.ireturn, 1) := by decide +kernel
theorem dX8_wire_0 : decode cX8_wire 0 = .ok (.aload_n 0, 1) := by decide +kernel
theorem dX8_wire_1 : decode cX8_wire 1 = .ok (.getfield 10, 3) := by decide +kernel
theorem dX8_wire_4 : decode cX8_wire 4 = .ok (.iload_n 1, 1) := by decide +kernel
theorem dX8_wire_5 : decode cX8_wire 5 = .ok (.invokevirtual 94, 3) := by decide +kernel
theorem dX8_wire_8 : decode cX8_wire 8 = .ok (.ifCond .ne 6, 3) := by decide +kernel
theorem dX8_wire_11 : decode cX8_wire 11 = .ok (.ldc 98, 2) := by decide +kernel
theorem dX8_wire_13 : decode cX8_wire 13 = .ok (.ireturn, 1) := by decide +kernel
theorem dX8_wire_14 : decode cX8_wire 14 = .ok (.aload_n 0, 1) := by decide +kernel
theorem dX8_wire_15 : decode cX8_wire 15 = .ok (.getfield 76, 3) := by decide +kernel
theorem dX8_wire_18 : decode cX8_wire 18 = .ok (.invokevirtual 205, 3) := by decide +kernel
theorem dX8_wire_21 : decode cX8_wire 21 = .ok (.ifCond .eq 6, 3) := by decide +kernel
theorem dX8_wire_24 : decode cX8_wire 24 = .ok (.ldc 209, 2) := by decide +kernel
theorem dX8_wire_26 : decode cX8_wire 26 = .ok (.ireturn, 1) := by decide +kernel
theorem dX8_wire_27 : decode cX8_wire 27 = .ok (.iload_n 3, 1) := by decide +kernel
theorem dX8_wire_28 : decode cX8_wire 28 = .ok (.iconst (-1), 1) := by decide +kernel
theorem dX8_wire_29 : decode cX8_wire 29 = .ok (.if_icmp .lt 14, 3) := by decide +kernel
theorem dX8_wire_32 : decode cX8_wire 32 = .ok (.iload_n 3, 1) := by decide +kernel
theorem dX8_wire_33 : decode cX8_wire 33 = .ok (.aload_n 0, 1) := by decide +kernel
theorem dX8_wire_34 : decode cX8_wire 34 = .ok (.getfield 76, 3) := by decide +kernel
theorem dX8_wire_37 : decode cX8_wire 37 = .ok (.getfield 172, 3) := by decide +kernel
theorem dX8_wire_40 : decode cX8_wire 40 = .ok (.if_icmp .lt 6, 3) := by decide +kernel
theorem dX8_wire_43 : decode cX8_wire 43 = .ok (.ldc 98, 2) := by decide +kernel
theorem dX8_wire_45 : decode cX8_wire 45 = .ok (.ireturn, 1) := by decide +kernel
theorem dX8_wire_46 : decode cX8_wire 46 = .ok (.aload_n 0, 1) := by decide +kernel
theorem dX8_wire_47 : decode cX8_wire 47 = .ok (.getfield 10, 3) := by decide +kernel
theorem dX8_wire_50 : decode cX8_wire 50 = .ok (.iload_n 1, 1) := by decide +kernel
theorem dX8_wire_51 : decode cX8_wire 51 = .ok (.iload_n 2, 1) := by decide +kernel
theorem dX8_wire_52 : decode cX8_wire 52 = .ok (.aload_n 0, 1) := by decide +kernel
theorem dX8_wire_53 : decode cX8_wire 53 = .ok (.getfield 76, 3) := by decide +kernel
theorem dX8_wire_56 : decode cX8_wire 56 = .ok (.getfield 172, 3) := by decide +kernel
theorem dX8_wire_59 : decode cX8_wire 59 = .ok (.iconst 1, 1) := by decide +kernel
theorem dX8_wire_60 : decode cX8_wire 60 = .ok (.iadd, 1) := by decide +kernel
theorem dX8_wire_61 : decode cX8_wire 61 = .ok (.invokevirtual 110, 3) := by decide +kernel
theorem dX8_wire_64 : decode cX8_wire 64 = .ok (.istore 4, 2) := by decide +kernel
theorem dX8_wire_66 : decode cX8_wire 66 = .ok (.iload 4, 2) := by decide +kernel
theorem dX8_wire_68 : decode cX8_wire 68 = .ok (.ifCond .eq 10, 3) := by decide +kernel
theorem dX8_wire_71 : decode cX8_wire 71 = .ok (.aload_n 0, 1) := by decide +kernel
theorem dX8_wire_72 : decode cX8_wire 72 = .ok (.iload 4, 2) := by decide +kernel
theorem dX8_wire_74 : decode cX8_wire 74 = .ok (.invokevirtual 99, 3) := by decide +kernel
theorem dX8_wire_77 : decode cX8_wire 77 = .ok (.ireturn, 1) := by decide +kernel
theorem dX8_wire_78 : decode cX8_wire 78 = .ok (.aload_n 0, 1) := by decide +kernel
theorem dX8_wire_79 : decode cX8_wire 79 = .ok (.getfield 10, 3) := by decide +kernel
theorem dX8_wire_82 : decode cX8_wire 82 = .ok (.iload_n 1, 1) := by decide +kernel
theorem dX8_wire_83 : decode cX8_wire 83 = .ok (.iload_n 2, 1) := by decide +kernel
theorem dX8_wire_84 : decode cX8_wire 84 = .ok (.aload_n 0, 1) := by decide +kernel
theorem dX8_wire_85 : decode cX8_wire 85 = .ok (.getfield 76, 3) := by decide +kernel
theorem dX8_wire_88 : decode cX8_wire 88 = .ok (.getfield 172, 3) := by decide +kernel
theorem dX8_wire_91 : decode cX8_wire 91 = .ok (.iconst 1, 1) := by decide +kernel
theorem dX8_wire_92 : decode cX8_wire 92 = .ok (.iadd, 1) := by decide +kernel
theorem dX8_wire_93 : decode cX8_wire 93 = .ok (.sipush 9999, 3) := by decide +kernel
theorem dX8_wire_96 : decode cX8_wire 96 = .ok (.invokevirtual 299, 3) := by decide +kernel
theorem dX8_wire_99 : decode cX8_wire 99 = .ok (.ifCond .ne 6, 3) := by decide +kernel
theorem dX8_wire_102 : decode cX8_wire 102 = .ok (.ldc 98, 2) := by decide +kernel
theorem dX8_wire_104 : decode cX8_wire 104 = .ok (.ireturn, 1) := by decide +kernel
theorem dX8_wire_105 : decode cX8_wire 105 = .ok (.aload_n 0, 1) := by decide +kernel
theorem dX8_wire_106 : decode cX8_wire 106 = .ok (.iload_n 3, 1) := by decide +kernel
theorem dX8_wire_107 : decode cX8_wire 107 = .ok (.iconst (-1), 1) := by decide +kernel
theorem dX8_wire_108 : decode cX8_wire 108 = .ok (.if_icmp .ne 12, 3) := by decide +kernel
theorem dX8_wire_111 : decode cX8_wire 111 = .ok (.aload_n 0, 1) := by decide +kernel
theorem dX8_wire_112 : decode cX8_wire 112 = .ok (.iload_n 1, 1) := by decide +kernel
theorem dX8_wire_113 : decode cX8_wire 113 = .ok (.iload_n 2, 1) := by decide +kernel
theorem dX8_wire_114 : decode cX8_wire 114 = .ok (.invokevirtual 303, 3) := by decide +kernel
theorem dX8_wire_117 : decode cX8_wire 117 = .ok (.goto 10, 3) := by decide +kernel
theorem dX8_wire_120 : decode cX8_wire 120 = .ok (.aload_n 0, 1) := by decide +kernel
theorem dX8_wire_121 : decode cX8_wire 121 = .ok (.iload_n 1, 1) := by decide +kernel
theorem dX8_wire_122 : decode cX8_wire 122 = .ok (.iload_n 2, 1) := by decide +kernel
theorem dX8_wire_123 : decode cX8_wire 123 = .ok (.iload_n 3, 1) := by decide +kernel
theorem dX8_wire_124 : decode cX8_wire 124 = .ok (.invokevirtual 306, 3) := by decide +kernel
theorem dX8_wire_127 : decode cX8_wire 127 = .ok (.invokevirtual 107, 3) := by decide +kernel
theorem dX8_wire_130 : decode cX8_wire 130 = .ok (.ireturn, 1) := by decide +kernel
theorem dX8_wireBend_0 : decode cX8_wireBend 0 = .ok (.aload_n 0, 1) := by decide +kernel
theorem dX8_wireBend_1 : decode cX8_wireBend 1 = .ok (.getfield 10, 3) := by decide +kernel
theorem dX8_wireBend_4 : decode cX8_wireBend 4 = .ok (.iload_n 1, 1) := by decide +kernel
theorem dX8_wireBend_5 : decode cX8_wireBend 5 = .ok (.iload_n 2, 1) := by decide +kernel
theorem dX8_wireBend_6 : decode cX8_wireBend 6 = .ok (.iload_n 3, 1) := by decide +kernel
theorem dX8_wireBend_7 : decode cX8_wireBend 7 = .ok (.iadd, 1) := by decide +kernel
theorem dX8_wireBend_8 : decode cX8_wireBend 8 = .ok (.invokevirtual 217, 3) := by decide +kernel
theorem dX8_wireBend_11 : decode cX8_wireBend 11 = .ok (.istore 4, 2) := by decide +kernel
theorem dX8_wireBend_13 : decode cX8_wireBend 13 = .ok (.aload_n 0, 1) := by decide +kernel
theorem dX8_wireBend_14 : decode cX8_wireBend 14 = .ok (.getfield 10, 3) := by decide +kernel
theorem dX8_wireBend_17 : decode cX8_wireBend 17 = .ok (.iload_n 1, 1) := by decide +kernel
theorem dX8_wireBend_18 : decode cX8_wireBend 18 = .ok (.iload_n 2, 1) := by decide +kernel
theorem dX8_wireBend_19 : decode cX8_wireBend 19 = .ok (.iload_n 3, 1) := by decide +kernel
theorem dX8_wireBend_20 : decode cX8_wireBend 20 = .ok (.iadd, 1) := by decide +kernel
theorem dX8_wireBend_21 : decode cX8_wireBend 21 = .ok (.iconst 1, 1) := by decide +kernel
theorem dX8_wireBend_22 : decode cX8_wireBend 22 = .ok (.iadd, 1) := by decide +kernel
theorem dX8_wireBend_23 : decode cX8_wireBend 23 = .ok (.invokevirtual 217, 3) := by decide +kernel
theorem dX8_wireBend_26 : decode cX8_wireBend 26 = .ok (.iload 4, 2) := by decide +kernel
theorem dX8_wireBend_28 : decode cX8_wireBend 28 = .ok (.isub, 1) := by decide +kernel
theorem dX8_wireBend_29 : decode cX8_wireBend 29 = .ok (.istore 5, 2) := by decide +kernel
theorem dX8_wireBend_31 : decode cX8_wireBend 31 = .ok (.iload_n 3, 1) := by decide +kernel
theorem dX8_wireBend_32 : decode cX8_wireBend 32 = .ok (.ifCond .ne 7, 3) := by decide +kernel
theorem dX8_wireBend_35 : decode cX8_wireBend 35 = .ok (.iconst 0, 1) := by decide +kernel
theorem dX8_wireBend_36 : decode cX8_wireBend 36 = .ok (.goto 19, 3) := by decide +kernel
theorem dX8_wireBend_39 : decode cX8_wireBend 39 = .ok (.iload 4, 2) := by decide +kernel
theorem dX8_wireBend_41 : decode cX8_wireBend 41 = .ok (.aload_n 0, 1) := by decide +kernel
theorem dX8_wireBend_42 : decode cX8_wireBend 42 = .ok (.getfield 10, 3) := by decide +kernel
theorem dX8_wireBend_45 : decode cX8_wireBend 45 = .ok (.iload_n 1, 1) := by decide +kernel
theorem dX8_wireBend_46 : decode cX8_wireBend 46 = .ok (.iload_n 2, 1) := by decide +kernel
theorem dX8_wireBend_47 : decode cX8_wireBend 47 = .ok (.iload_n 3, 1) := by decide +kernel
theorem dX8_wireBend_48 : decode cX8_wireBend 48 = .ok (.iadd, 1) := by decide +kernel
theorem dX8_wireBend_49 : decode cX8_wireBend 49 = .ok (.iconst 1, 1) := by decide +kernel
theorem dX8_wireBend_50 : decode cX8_wireBend 50 = .ok (.isub, 1) := by decide +kernel
theorem dX8_wireBend_51 : decode cX8_wireBend 51 = .ok (.invokevirtual 217, 3) := by decide +kernel
theorem dX8_wireBend_54 : decode cX8_wireBend 54 = .ok (.isub, 1) := by decide +kernel
theorem dX8_wireBend_55 : decode cX8_wireBend 55 = .ok (.istore 6, 2) := by decide +kernel
theorem dX8_wireBend_57 : decode cX8_wireBend 57 = .ok (.iload 5, 2) := by decide +kernel
theorem dX8_wireBend_59 : decode cX8_wireBend 59 = .ok (.iload 6, 2) := by decide +kernel
theorem dX8_wireBend_61 : decode cX8_wireBend 61 = .ok (.isub, 1) := by decide +kernel
theorem dX8_wireBend_62 : decode cX8_wireBend 62 = .ok (.ireturn, 1) := by decide +kernel
theorem dX8_steelOf_0 : decode cX8_steelOf 0 = .ok (.iconst 1, 1) := by decide +kernel
theorem dX8_steelOf_1 : decode cX8_steelOf 1 = .ok (.istore_n 3, 1) := by decide +kernel
theorem dX8_steelOf_2 : decode cX8_steelOf 2 = .ok (.iload_n 3, 1) := by decide +kernel
theorem dX8_steelOf_3 : decode cX8_steelOf 3 = .ok (.bipush 9, 2) := by decide +kernel
theorem dX8_steelOf_5 : decode cX8_steelOf 5 = .ok (.if_icmp .gt 21, 3) := by decide +kernel
theorem dX8_steelOf_8 : decode cX8_steelOf 8 = .ok (.aload_n 0, 1) := by decide +kernel
theorem dX8_steelOf_9 : decode cX8_steelOf 9 = .ok (.iload_n 1, 1) := by decide +kernel
theorem dX8_steelOf_10 : decode cX8_steelOf 10 = .ok (.iload_n 2, 1) := by decide +kernel
theorem dX8_steelOf_11 : decode cX8_steelOf 11 = .ok (.iload_n 3, 1) := by decide +kernel
theorem dX8_steelOf_12 : decode cX8_steelOf 12 = .ok (.invokevirtual 309, 3) := by decide +kernel
theorem dX8_steelOf_15 : decode cX8_steelOf 15 = .ok (.ifCond .eq 5, 3) := by decide +kernel
theorem dX8_steelOf_18 : decode cX8_steelOf 18 = .ok (.iload_n 3, 1) := by decide +kernel
theorem dX8_steelOf_19 : decode cX8_steelOf 19 = .ok (.ireturn, 1) := by decide +kernel
theorem dX8_steelOf_20 : decode cX8_steelOf 20 = .ok (.iinc 3 1, 3) := by decide +kernel
theorem dX8_steelOf_23 : decode cX8_steelOf 23 = .ok (.goto (-21), 3) := by decide +kernel
theorem dX8_steelOf_26 : decode cX8_steelOf 26 = .ok (.ldc 198, 2) := by decide +kernel
theorem dX8_steelOf_28 : decode cX8_steelOf 28 = .ok (.ireturn, 1) := by decide +kernel
theorem dX8_isSteel_0 : decode cX8_isSteel 0 = .ok (.iconst 0, 1) := by decide +kernel
theorem dX8_isSteel_1 : decode cX8_isSteel 1 = .ok (.istore 4, 2) := by decide +kernel
theorem dX8_isSteel_3 : decode cX8_isSteel 3 = .ok (.iload 4, 2) := by decide +kernel
theorem dX8_isSteel_5 : decode cX8_isSteel 5 = .ok (.aload_n 0, 1) := by decide +kernel
theorem dX8_isSteel_6 : decode cX8_isSteel 6 = .ok (.getfield 76, 3) := by decide +kernel
theorem dX8_isSteel_9 : decode cX8_isSteel 9 = .ok (.getfield 172, 3) := by decide +kernel
theorem dX8_isSteel_12 : decode cX8_isSteel 12 = .ok (.if_icmp .ge 36, 3) := by decide +kernel
theorem dX8_isSteel_15 : decode cX8_isSteel 15 = .ok (.aload_n 0, 1) := by decide +kernel
theorem dX8_isSteel_16 : decode cX8_isSteel 16 = .ok (.iload_n 1, 1) := by decide +kernel
theorem dX8_isSteel_17 : decode cX8_isSteel 17 = .ok (.iload_n 2, 1) := by decide +kernel
theorem dX8_isSteel_18 : decode cX8_isSteel 18 = .ok (.iload 4, 2) := by decide +kernel
theorem dX8_isSteel_20 : decode cX8_isSteel 20 = .ok (.invokevirtual 306, 3) := by decide +kernel
theorem dX8_isSteel_23 : decode cX8_isSteel 23 = .ok (.iload_n 3, 1) := by decide +kernel
theorem dX8_isSteel_24 : decode cX8_isSteel 24 = .ok (.aload_n 0, 1) := by decide +kernel
theorem dX8_isSteel_25 : decode cX8_isSteel 25 = .ok (.getfield 45, 3) := by decide +kernel
theorem dX8_isSteel_28 : decode cX8_isSteel 28 = .ok (.getfield 236, 3) := by decide +kernel
theorem dX8_isSteel_31 : decode cX8_isSteel 31 = .ok (.iload 4, 2) := by decide +kernel
theorem dX8_isSteel_33 : decode cX8_isSteel 33 = .ok (.iaload, 1) := by decide +kernel
theorem dX8_isSteel_34 : decode cX8_isSteel 34 = .ok (.imul, 1) := by decide +kernel
theorem dX8_isSteel_35 : decode cX8_isSteel 35 = .ok (.iconst 4, 1) := by decide +kernel
theorem dX8_isSteel_36 : decode cX8_isSteel 36 = .ok (.idiv, 1) := by decide +kernel
theorem dX8_isSteel_37 : decode cX8_isSteel 37 = .ok (.if_icmp .eq 5, 3) := by decide +kernel
theorem dX8_isSteel_40 : decode cX8_isSteel 40 = .ok (.iconst 0, 1) := by decide +kernel
theorem dX8_isSteel_41 : decode cX8_isSteel 41 = .ok (.ireturn, 1) := by decide +kernel
theorem dX8_isSteel_42 : decode cX8_isSteel 42 = .ok (.iinc 4 1, 3) := by decide +kernel
theorem dX8_isSteel_45 : decode cX8_isSteel 45 = .ok (.goto (-42), 3) := by decide +kernel
theorem dX8_isSteel_48 : decode cX8_isSteel 48 = .ok (.iconst 1, 1) := by decide +kernel
theorem dX8_isSteel_49 : decode cX8_isSteel 49 = .ok (.ireturn, 1) := by decide +kernel
theorem dX8_kind_0 : decode cX8_kind 0 = .ok (.aload_n 0, 1) := by decide +kernel
theorem dX8_kind_1 : decode cX8_kind 1 = .ok (.getfield 76, 3) := by decide +kernel
theorem dX8_kind_4 : decode cX8_kind 4 = .ok (.iload_n 1, 1) := by decide +kernel
theorem dX8_kind_5 : decode cX8_kind 5 = .ok (.invokevirtual 192, 3) := by decide +kernel
theorem dX8_kind_8 : decode cX8_kind 8 = .ok (.ifCond .eq 14, 3) := by decide +kernel
theorem dX8_kind_11 : decode cX8_kind 11 = .ok (.aload_n 0, 1) := by decide +kernel
theorem dX8_kind_12 : decode cX8_kind 12 = .ok (.getfield 76, 3) := by decide +kernel
theorem dX8_kind_15 : decode cX8_kind 15 = .ok (.iload_n 1, 1) := by decide +kernel
theorem dX8_kind_16 : decode cX8_kind 16 = .ok (.invokevirtual 312, 3) := by decide +kernel
theorem dX8_kind_19 : decode cX8_kind 19 = .ok (.goto 5, 3) := by decide +kernel
theorem dX8_kind_22 : decode cX8_kind 22 = .ok (.ldc 98, 2) := by decide +kernel
theorem dX8_kind_24 : decode cX8_kind 24 = .ok (.ireturn, 1) := by decide +kernel
theorem dX8_as_0 : decode cX8_as 0 = .ok (.aload_n 0, 1) := by decide +kernel
theorem dX8_as_1 : decode cX8_as 1 = .ok (.getfield 76, 3) := by decide +kernel
theorem dX8_as_4 : decode cX8_as 4 = .ok (.iload_n 1, 1) := by decide +kernel
theorem dX8_as_5 : decode cX8_as 5 = .ok (.invokevirtual 192, 3) := by decide +kernel
theorem dX8_as_8 : decode cX8_as 8 = .ok (.ifCond .eq 10, 3) := by decide +kernel
theorem dX8_as_11 : decode cX8_as 11 = .ok (.iload_n 2, 1) := by decide +kernel
theorem dX8_as_12 : decode cX8_as 12 = .ok (.invokestatic 315, 3) := by decide +kernel
theorem dX8_as_15 : decode cX8_as 15 = .ok (.ifCond .ne 6, 3) := by decide +kernel
theorem dX8_as_18 : decode cX8_as 18 = .ok (.ldc 98, 2) := by decide +kernel
theorem dX8_as_20 : decode cX8_as 20 = .ok (.ireturn, 1) := by decide +kernel
theorem dX8_as_21 : decode cX8_as 21 = .ok (.aload_n 0, 1) := by decide +kernel
theorem dX8_as_22 : decode cX8_as 22 = .ok (.getfield 76, 3) := by decide +kernel
theorem dX8_as_25 : decode cX8_as 25 = .ok (.iload_n 1, 1) := by decide +kernel
theorem dX8_as_26 : decode cX8_as 26 = .ok (.invokevirtual 312, 3) := by decide +kernel
theorem dX8_as_29 : decode cX8_as 29 = .ok (.iload_n 2, 1) := by decide +kernel
theorem dX8_as_30 : decode cX8_as 30 = .ok (.invokestatic 318, 3) := by decide +kernel
theorem dX8_as_33 : decode cX8_as 33 = .ok (.ifCond .ne 9, 3) := by decide +kernel
theorem dX8_as_36 : decode cX8_as 36 = .ok (.aload_n 0, 1) := by decide +kernel
theorem dX8_as_37 : decode cX8_as 37 = .ok (.iconst 3, 1) := by decide +kernel
theorem dX8_as_38 : decode cX8_as 38 = .ok (.invokevirtual 99, 3) := by decide +kernel
theorem dX8_as_41 : decode cX8_as 41 = .ok (.ireturn, 1) := by decide +kernel
theorem dX8_as_42 : decode cX8_as 42 = .ok (.aload_n 0, 1) := by decide +kernel
theorem dX8_as_43 : decode cX8_as 43 = .ok (.aload_n 0, 1) := by decide +kernel
theorem dX8_as_44 : decode cX8_as 44 = .ok (.getfield 76, 3) := by decide +kernel
theorem dX8_as_47 : decode cX8_as 47 = .ok (.getfield 189, 3) := by decide +kernel
theorem dX8_as_50 : decode cX8_as 50 = .ok (.iload_n 1, 1) := by decide +kernel
theorem dX8_as_51 : decode cX8_as 51 = .ok (.iaload, 1) := by decide +kernel
theorem dX8_as_52 : decode cX8_as 52 = .ok (.invokevirtual 107, 3) := by decide +kernel
theorem dX8_as_55 : decode cX8_as 55 = .ok (.ireturn, 1) := by decide +kernel
theorem dX8_ask_0 : decode cX8_ask 0 = .ok (.aload_n 0, 1) := by decide +kernel
theorem dX8_ask_1 : decode cX8_ask 1 = .ok (.getfield 76, 3) := by decide +kernel
theorem dX8_ask_4 : decode cX8_ask 4 = .ok (.iload_n 1, 1) := by decide +kernel
theorem dX8_ask_5 : decode cX8_ask 5 = .ok (.invokevirtual 192, 3) := by decide +kernel
theorem dX8_ask_8 : decode cX8_ask 8 = .ok (.ifCond .eq 12, 3) := by decide +kernel
theorem dX8_ask_11 : decode cX8_ask 11 = .ok (.iload_n 2, 1) := by decide +kernel
theorem dX8_ask_12 : decode cX8_ask 12 = .ok (.ifCond .eq 11, 3) := by decide +kernel
theorem dX8_ask_15 : decode cX8_ask 15 = .ok (.iload_n 2, 1) := by decide +kernel
theorem dX8_ask_16 : decode cX8_ask 16 = .ok (.iconst 1, 1) := by decide +kernel
theorem dX8_ask_17 : decode cX8_ask 17 = .ok (.if_icmp .eq 6, 3) := by decide +kernel
theorem dX8_ask_20 : decode cX8_ask 20 = .ok (.ldc 98, 2) := by decide +kernel
theorem dX8_ask_22 : decode cX8_ask 22 = .ok (.ireturn, 1) := by decide +kernel
theorem dX8_ask_23 : decode cX8_ask 23 = .ok (.aload_n 0, 1) := by decide +kernel
theorem dX8_ask_24 : decode cX8_ask 24 = .ok (.getfield 69, 3) := by decide +kernel
theorem dX8_ask_27 : decode cX8_ask 27 = .ok (.aload_n 0, 1) := by decide +kernel
theorem dX8_ask_28 : decode cX8_ask 28 = .ok (.getfield 76, 3) := by decide +kernel
theorem dX8_ask_31 : decode cX8_ask 31 = .ok (.iload_n 1, 1) := by decide +kernel
theorem dX8_ask_32 : decode cX8_ask 32 = .ok (.iload_n 2, 1) := by decide +kernel
theorem dX8_ask_33 : decode cX8_ask 33 = .ok (.invokevirtual 322, 3) := by decide +kernel
theorem dX8_ask_36 : decode cX8_ask 36 = .ok (.ireturn, 1) := by decide +kernel
theorem dX8_trace_0 : decode cX8_trace 0 = .ok (.aload_n 0, 1) := by decide +kernel
theorem dX8_trace_1 : decode cX8_trace 1 = .ok (.getfield 69, 3) := by decide +kernel
theorem dX8_trace_4 : decode cX8_trace 4 = .ok (.iload_n 1, 1) := by decide +kernel
theorem dX8_trace_5 : decode cX8_trace 5 = .ok (.invokevirtual 326, 3) := by decide +kernel
theorem dX8_trace_8 : decode cX8_trace 8 = .ok (.ireturn, 1) := by decide +kernel
theorem dX8_count_0 : decode cX8_count 0 = .ok (.iload_n 1, 1) := by decide +kernel
theorem dX8_count_1 : decode cX8_count 1 = .ok (.tableswitch 87 0 5 #[39, 47, 55, 63, 71, 79], 39) := by decide +kernel
theorem dX8_count_40 : decode cX8_count 40 = .ok (.aload_n 0, 1) := by decide +kernel
theorem dX8_count_41 : decode cX8_count 41 = .ok (.getfield 10, 3) := by decide +kernel
theorem dX8_count_44 : decode cX8_count 44 = .ok (.invokevirtual 329, 3) := by decide +kernel
theorem dX8_count_47 : decode cX8_count 47 = .ok (.ireturn, 1) := by decide +kernel
theorem dX8_count_48 : decode cX8_count 48 = .ok (.aload_n 0, 1) := by decide +kernel
theorem dX8_count_49 : decode cX8_count 49 = .ok (.getfield 76, 3) := by decide +kernel
theorem dX8_count_52 : decode cX8_count 52 = .ok (.getfield 172, 3) := by decide +kernel
theorem dX8_count_55 : decode cX8_count 55 = .ok (.ireturn, 1) := by decide +kernel
theorem dX8_count_56 : decode cX8_count 56 = .ok (.aload_n 0, 1) := by decide +kernel
theorem dX8_count_57 : decode cX8_count 57 = .ok (.getfield 76, 3) := by decide +kernel
theorem dX8_count_60 : decode cX8_count 60 = .ok (.getfield 210, 3) := by decide +kernel
theorem dX8_count_63 : decode cX8_count 63 = .ok (.ireturn, 1) := by decide +kernel
theorem dX8_count_64 : decode cX8_count 64 = .ok (.aload_n 0, 1) := by decide +kernel
theorem dX8_count_65 : decode cX8_count 65 = .ok (.getfield 76, 3) := by decide +kernel
theorem dX8_count_68 : decode cX8_count 68 = .ok (.getfield 154, 3) := by decide +kernel
theorem dX8_count_71 : decode cX8_count 71 = .ok (.ireturn, 1) := by decide +kernel
theorem dX8_count_72 : decode cX8_count 72 = .ok (.aload_n 0, 1) := by decide +kernel
theorem dX8_count_73 : decode cX8_count 73 = .ok (.getfield 76, 3) := by decide +kernel
theorem dX8_count_76 : decode cX8_count 76 = .ok (.getfield 332, 3) := by decide +kernel
theorem dX8_count_79 : decode cX8_count 79 = .ok (.ireturn, 1) := by decide +kernel
theorem dX8_count_80 : decode cX8_count 80 = .ok (.aload_n 0, 1) := by decide +kernel
theorem dX8_count_81 : decode cX8_count 81 = .ok (.getfield 19, 3) := by decide +kernel
theorem dX8_count_84 : decode cX8_count 84 = .ok (.getfield 335, 3) := by decide +kernel
theorem dX8_count_87 : decode cX8_count 87 = .ok (.ireturn, 1) := by decide +kernel
theorem dX8_count_88 : decode cX8_count 88 = .ok (.ldc 98, 2) := by decide +kernel
theorem dX8_count_90 : decode cX8_count 90 = .ok (.ireturn, 1) := by decide +kernel
theorem dX8_status_0 : decode cX8_status 0 = .ok (.aload_n 0, 1) := by decide +kernel
theorem dX8_status_1 : decode cX8_status 1 = .ok (.getfield 91, 3) := by decide +kernel
theorem dX8_status_4 : decode cX8_status 4 = .ok (.ireturn, 1) := by decide +kernel
theorem dX8_found_0 : decode cX8_found 0 = .ok (.aload_n 0, 1) := by decide +kernel
theorem dX8_found_1 : decode cX8_found 1 = .ok (.iload_n 1, 1) := by decide +kernel
theorem dX8_found_2 : decode cX8_found 2 = .ok (.putfield 91, 3) := by decide +kernel
theorem dX8_found_5 : decode cX8_found 5 = .ok (.ldc_w 338, 3) := by decide +kernel
theorem dX8_found_8 : decode cX8_found 8 = .ok (.iload_n 1, 1) := by decide +kernel
theorem dX8_found_9 : decode cX8_found 9 = .ok (.isub, 1) := by decide +kernel
theorem dX8_found_10 : decode cX8_found 10 = .ok (.ireturn, 1) := by decide +kernel
theorem dX8_fine_0 : decode cX8_fine 0 = .ok (.aload_n 0, 1) := by decide +kernel
theorem dX8_fine_1 : decode cX8_fine 1 = .ok (.iconst 0, 1) := by decide +kernel
theorem dX8_fine_2 : decode cX8_fine 2 = .ok (.putfield 91, 3) := by decide +kernel
theorem dX8_fine_5 : decode cX8_fine 5 = .ok (.iload_n 1, 1) := by decide +kernel
theorem dX8_fine_6 : decode cX8_fine 6 = .ok (.ireturn, 1) := by decide +kernel
theorem dX9_init_0 : decode cX9_init 0 = .ok (.aload_n 0, 1) := by decide +kernel
theorem dX9_init_1 : decode cX9_init 1 = .ok (.invokespecial 1, 3) := by decide +kernel
theorem dX9_init_4 : decode cX9_init 4 = .ok (.aload_n 0, 1) := by decide +kernel
theorem dX9_init_5 : decode cX9_init 5 = .ok (.bipush 8, 2) := by decide +kernel
theorem dX9_init_7 : decode cX9_init 7 = .ok (.newarray .int, 2) := by decide +kernel
theorem dX9_init_9 : decode cX9_init 9 = .ok (.dup, 1) := by decide +kernel
theorem dX9_init_10 : decode cX9_init 10 = .ok (.iconst 0, 1) := by decide +kernel
theorem dX9_init_11 : decode cX9_init 11 = .ok (.iconst (-1), 1) := by decide +kernel
theorem dX9_init_12 : decode cX9_init 12 = .ok (.iastore, 1) := by decide +kernel
theorem dX9_init_13 : decode cX9_init 13 = .ok (.dup, 1) := by decide +kernel
theorem dX9_init_14 : decode cX9_init 14 = .ok (.iconst 1, 1) := by decide +kernel
theorem dX9_init_15 : decode cX9_init 15 = .ok (.iconst (-1), 1) := by decide +kernel
theorem dX9_init_16 : decode cX9_init 16 = .ok (.iastore, 1) := by decide +kernel
theorem dX9_init_17 : decode cX9_init 17 = .ok (.dup, 1) := by decide +kernel
theorem dX9_init_18 : decode cX9_init 18 = .ok (.iconst 2, 1) := by decide +kernel
theorem dX9_init_19 : decode cX9_init 19 = .ok (.iconst (-1), 1) := by decide +kernel
theorem dX9_init_20 : decode cX9_init 20 = .ok (.iastore, 1) := by decide +kernel
theorem dX9_init_21 : decode cX9_init 21 = .ok (.dup, 1) := by decide +kernel
theorem dX9_init_22 : decode cX9_init 22 = .ok (.iconst 3, 1) := by decide +kernel
theorem dX9_init_23 : decode cX9_init 23 = .ok (.iconst (-1), 1) := by decide +kernel
theorem dX9_init_24 : decode cX9_init 24 = .ok (.iastore, 1) := by decide +kernel
theorem dX9_init_25 : decode cX9_init 25 = .ok (.dup, 1) := by decide +kernel
theorem dX9_init_26 : decode cX9_init 26 = .ok (.iconst 4, 1) := by decide +kernel
theorem dX9_init_27 : decode cX9_init 27 = .ok (.iconst (-1), 1) := by decide +kernel
theorem dX9_init_28 : decode cX9_init 28 = .ok (.iastore, 1) := by decide +kernel
theorem dX9_init_29 : decode cX9_init 29 = .ok (.dup, 1) := by decide +kernel
theorem dX9_init_30 : decode cX9_init 30 = .ok (.iconst 5, 1) := by decide +kernel
theorem dX9_init_31 : decode cX9_init 31 = .ok (.iconst (-1), 1) := by decide +kernel
theorem dX9_init_32 : decode cX9_init 32 = .ok (.iastore, 1) := by decide +kernel
theorem dX9_init_33 : decode cX9_init 33 = .ok (.dup, 1) := by decide +kernel
theorem dX9_init_34 : decode cX9_init 34 = .ok (.bipush 6, 2) := by decide +kernel
theorem dX9_init_36 : decode cX9_init 36 = .ok (.iconst (-1), 1) := by decide +kernel
theorem dX9_init_37 : decode cX9_init 37 = .ok (.iastore, 1) := by decide +kernel
theorem dX9_init_38 : decode cX9_init 38 = .ok (.dup, 1) := by decide +kernel
theorem dX9_init_39 : decode cX9_init 39 = .ok (.bipush 7, 2) := by decide +kernel
theorem dX9_init_41 : decode cX9_init 41 = .ok (.iconst (-1), 1) := by decide +kernel
theorem dX9_init_42 : decode cX9_init 42 = .ok (.iastore, 1) := by decide +kernel
theorem dX9_init_43 : decode cX9_init 43 = .ok (.putfield 7, 3) := by decide +kernel
theorem dX9_init_46 : decode cX9_init 46 = .ok (.aload_n 0, 1) := by decide +kernel
theorem dX9_init_47 : decode cX9_init 47 = .ok (.bipush 8, 2) := by decide +kernel
theorem dX9_init_49 : decode cX9_init 49 = .ok (.newarray .int, 2) := by decide +kernel
theorem dX9_init_51 : decode cX9_init 51 = .ok (.putfield 13, 3) := by decide +kernel
theorem dX9_init_54 : decode cX9_init 54 = .ok (.aload_n 0, 1) := by decide +kernel
theorem dX9_init_55 : decode cX9_init 55 = .ok (.sipush 320, 3) := by decide +kernel
theorem dX9_init_58 : decode cX9_init 58 = .ok (.newarray .int, 2) := by decide +kernel
theorem dX9_init_60 : decode cX9_init 60 = .ok (.putfield 16, 3) := by decide +kernel
theorem dX9_init_63 : decode cX9_init 63 = .ok (.aload_n 0, 1) := by decide +kernel
theorem dX9_init_64 : decode cX9_init 64 = .ok (.sipush 160, 3) := by decide +kernel
theorem dX9_init_67 : decode cX9_init 67 = .ok (.newarray .int, 2) := by decide +kernel
theorem dX9_init_69 : decode cX9_init 69 = .ok (.putfield 19, 3) := by decide +kernel
theorem dX9_init_72 : decode cX9_init 72 = .ok (.aload_n 0, 1) := by decide +kernel
theorem dX9_init_73 : decode cX9_init 73 = .ok (.bipush 10, 2) := by decide +kernel
theorem dX9_init_75 : decode cX9_init 75 = .ok (.newarray .int, 2) := by decide +kernel
theorem dX9_init_77 : decode cX9_init 77 = .ok (.putfield 22, 3) := by decide +kernel
theorem dX9_init_80 : decode cX9_init 80 = .ok (.aload_n 0, 1) := by decide +kernel
theorem dX9_init_81 : decode cX9_init 81 = .ok (.bipush 10, 2) := by decide +kernel
theorem dX9_init_83 : decode cX9_init 83 = .ok (.newarray .int, 2) := by decide +kernel
theorem dX9_init_85 : decode cX9_init 85 = .ok (.putfield 25, 3) := by decide +kernel
theorem dX9_init_88 : decode cX9_init 88 = .ok (.aload_n 0, 1) := by decide +kernel
theorem dX9_init_89 : decode cX9_init 89 = .ok (.sipush 160, 3) := by decide +kernel
theorem dX9_init_92 : decode cX9_init 92 = .ok (.newarray .int, 2) := by decide +kernel
theorem dX9_init_94 : decode cX9_init 94 = .ok (.putfield 28, 3) := by decide +kernel
theorem dX9_init_97 : decode cX9_init 97 = .ok (.aload_n 0, 1) := by decide +kernel
theorem dX9_init_98 : decode cX9_init 98 = .ok (.bipush 10, 2) := by decide +kernel
theorem dX9_init_100 : decode cX9_init 100 = .ok (.newarray .int, 2) := by decide +kernel
theorem dX9_init_102 : decode cX9_init 102 = .ok (.putfield 31, 3) := by decide +kernel
theorem dX9_init_105 : decode cX9_init 105 = .ok (.aload_n 0, 1) := by decide +kernel
theorem dX9_init_106 : decode cX9_init 106 = .ok (.bipush 10, 2) := by decide +kernel
theorem dX9_init_108 : decode cX9_init 108 = .ok (.newarray .int, 2) := by decide +kernel
theorem dX9_init_110 : decode cX9_init 110 = .ok (.putfield 34, 3) := by decide +kernel
theorem dX9_init_113 : decode cX9_init 113 = .ok (.aload_n 0, 1) := by decide +kernel
theorem dX9_init_114 : decode cX9_init 114 = .ok (.sipush 500, 3) := by decide +kernel
theorem dX9_init_117 : decode cX9_init 117 = .ok (.newarray .int, 2) := by decide +kernel
theorem dX9_init_119 : decode cX9_init 119 = .ok (.putfield 37, 3) := by decide +kernel
theorem dX9_init_122 : decode cX9_init 122 = .ok (.aload_n 0, 1) := by decide +kernel
theorem dX9_init_123 : decode cX9_init 123 = .ok (.bipush 12, 2) := by decide +kernel
theorem dX9_init_125 : decode cX9_init 125 = .ok (.newarray .int, 2) := by decide +kernel
theorem dX9_init_127 : decode cX9_init 127 = .ok (.putfield 40, 3) := by decide +kernel
theorem dX9_init_130 : decode cX9_init 130 = .ok (.aload_n 0, 1) := by decide +kernel
theorem dX9_init_131 : decode cX9_init 131 = .ok (.bipush 6, 2) := by decide +kernel
theorem dX9_init_133 : decode cX9_init 133 = .ok (.newarray .int, 2) := by decide +kernel
theorem dX9_init_135 : decode cX9_init 135 = .ok (.putfield 43, 3) := by decide +kernel
theorem dX9_init_138 : decode cX9_init 138 = .ok (.aload_n 0, 1) := by decide +kernel
theorem dX9_init_139 : decode cX9_init 139 = .ok (.bipush 48, 2) := by decide +kernel
theorem dX9_init_141 : decode cX9_init 141 = .ok (.newarray .int, 2) := by decide +kernel
theorem dX9_init_143 : decode cX9_init 143 = .ok (.putfield 46, 3) := by decide +kernel
theorem dX9_init_146 : decode cX9_init 146 = .ok (.aload_n 0, 1) := by decide +kernel
theorem dX9_init_147 : decode cX9_init 147 = .ok (.bipush 12, 2) := by decide +kernel
theorem dX9_init_149 : decode cX9_init 149 = .ok (.newarray .int, 2) := by decide +kernel
theorem dX9_init_151 : decode cX9_init 151 = .ok (.putfield 49, 3) := by decide +kernel
theorem dX9_init_154 : decode cX9_init 154 = .ok (.aload_n 0, 1) := by decide +kernel
theorem dX9_init_155 : decode cX9_init 155 = .ok (.bipush 12, 2) := by decide +kernel
theorem dX9_init_157 : decode cX9_init 157 = .ok (.newarray .boolean, 2) := by decide +kernel
theorem dX9_init_159 : decode cX9_init 159 = .ok (.putfield 52, 3) := by decide +kernel
theorem dX9_init_162 : decode cX9_init 162 = .ok (.aload_n 0, 1) := by decide +kernel
theorem dX9_init_163 : decode cX9_init 163 = .ok (.bipush 48, 2) := by decide +kernel
theorem dX9_init_165 : decode cX9_init 165 = .ok (.newarray .int, 2) := by decide +kernel
theorem dX9_init_167 : decode cX9_init 167 = .ok (.putfield 56, 3) := by decide +kernel
theorem dX9_init_170 : decode cX9_init 170 = .ok (.aload_n 0, 1) := by decide +kernel
theorem dX9_init_171 : decode cX9_init 171 = .ok (.bipush 12, 2) := by decide +kernel
theorem dX9_init_173 : decode cX9_init 173 = .ok (.newarray .int, 2) := by decide +kernel
theorem dX9_init_175 : decode cX9_init 175 = .ok (.putfield 59, 3) := by decide +kernel
theorem dX9_init_178 : decode cX9_init 178 = .ok (.aload_n 0, 1) := by decide +kernel
theorem dX9_init_179 : decode cX9_init 179 = .ok (.bipush 6, 2) := by decide +kernel
theorem dX9_init_181 : decode cX9_init 181 = .ok (.newarray .int, 2) := by decide +kernel
theorem dX9_init_183 : decode cX9_init 183 = .ok (.putfield 62, 3) := by decide +kernel
theorem dX9_init_186 : decode cX9_init 186 = .ok (.aload_n 0, 1) := by decide +kernel
theorem dX9_init_187 : decode cX9_init 187 = .ok (.bipush 6, 2) := by decide +kernel
theorem dX9_init_189 : decode cX9_init 189 = .ok (.newarray .int, 2) := by decide +kernel
theorem dX9_init_191 : decode cX9_init 191 = .ok (.putfield 65, 3) := by decide +kernel
theorem dX9_init_194 : decode cX9_init 194 = .ok (.aload_n 0, 1) := by decide +kernel
theorem dX9_init_195 : decode cX9_init 195 = .ok (.bipush 16, 2) := by decide +kernel
theorem dX9_init_197 : decode cX9_init 197 = .ok (.newarray .int, 2) := by decide +kernel
theorem dX9_init_199 : decode cX9_init 199 = .ok (.putfield 68, 3) := by decide +kernel
theorem dX9_init_202 : decode cX9_init 202 = .ok (.return_, 1) := by decide +kernel
theorem dX9_in_0 : decode cX9_in 0 = .ok (.lload_n 0, 1) := by decide +kernel
theorem dX9_in_1 : decode cX9_in 1 = .ok (.lload_n 2, 1) := by decide +kernel
theorem dX9_in_2 : decode cX9_in 2 = .ok (.lcmp, 1) := by decide +kernel
theorem dX9_in_3 : decode cX9_in 3 = .ok (.ifCond .lt 14, 3) := by decide +kernel
theorem dX9_in_6 : decode cX9_in 6 = .ok (.lload_n 0, 1) := by decide +kernel
theorem dX9_in_7 : decode cX9_in 7 = .ok (.lload 4, 2) := by decide +kernel
theorem dX9_in_9 : decode cX9_in 9 = .ok (.lcmp, 1) := by decide +kernel
theorem dX9_in_10 : decode cX9_in 10 = .ok (.ifCond .gt 7, 3) := by decide +kernel
theorem dX9_in_13 : decode cX9_in 13 = .ok (.iconst 1, 1) := by decide +kernel
theorem dX9_in_14 : decode cX9_in 14 = .ok (.goto 4, 3) := by decide +kernel
theorem dX9_in_17 : decode cX9_in 17 = .ok (.iconst 0, 1) := by decide +kernel
theorem dX9_in_18 : decode cX9_in 18 = .ok (.ireturn, 1) := by decide +kernel
theorem dX9_finding_0 : decode cX9_finding 0 = .ok (.aload_n 0, 1) := by decide +kernel
theorem dX9_finding_1 : decode cX9_finding 1 = .ok (.iload_n 1, 1) := by decide +kernel
theorem dX9_finding_2 : decode cX9_finding 2 = .ok (.putfield 75, 3) := by decide +kernel
theorem dX9_finding_5 : decode cX9_finding 5 = .ok (.ldc 78, 2) := by decide +kernel
theorem dX9_finding_7 : decode cX9_finding 7 = .ok (.iload_n 1, 1) := by decide +kernel
theorem dX9_finding_8 : decode cX9_finding 8 = .ok (.isub, 1) := by decide +kernel
theorem dX9_finding_9 : decode cX9_finding 9 = .ok (.ireturn, 1) := by decide +kernel
theorem dX9_isSheet_0 : decode cX9_isSheet 0 = .ok (.iload_n 0, 1) := by decide +kernel
theorem dX9_isSheet_1 : decode cX9_isSheet 1 = .ok (.i2l, 1) := by decide +kernel
theorem dX9_isSheet_2 : decode cX9_isSheet 2 = .ok (.lconst 0, 1) := by decide +kernel
theorem dX9_isSheet_3 : decode cX9_isSheet 3 = .ok (.ldc2_w 79, 3) := by decide +kernel
theorem dX9_isSheet_6 : decode cX9_isSheet 6 = .ok (.invokestatic 81, 3) := by decide +kernel
theorem dX9_isSheet_9 : decode cX9_isSheet 9 = .ok (.ireturn, 1) := by decide +kernel
theorem dX9_sheet_0 : decode cX9_sheet 0 = .ok (.aload_n 0, 1) := by decide +kernel
theorem dX9_sheet_1 : decode cX9_sheet 1 = .ok (.iconst 0, 1) := by decide +kernel
theorem dX9_sheet_2 : decode cX9_sheet 2 = .ok (.putfield 71, 3) := by decide +kernel
theorem dX9_sheet_5 : decode cX9_sheet 5 = .ok (.iload_n 1, 1) := by decide +kernel
theorem dX9_sheet_6 : decode cX9_sheet 6 = .ok (.invokestatic 85, 3) := by decide +kernel
theorem dX9_sheet_9 : decode cX9_sheet 9 = .ok (.ifCond .eq 21, 3) := by decide +kernel
theorem dX9_sheet_12 : decode cX9_sheet 12 = .ok (.iload_n 2, 1) := by decide +kernel
theorem dX9_sheet_13 : decode cX9_sheet 13 = .ok (.i2l, 1) := by decide +kernel
theorem dX9_sheet_14 : decode cX9_sheet 14 = .ok (.lconst 0, 1) := by decide +kernel
theorem dX9_sheet_15 : decode cX9_sheet 15 = .ok (.ldc2_w 89, 3) := by decide +kernel
theorem dX9_sheet_18 : decode cX9_sheet 18 = .ok (.invokestatic 81, 3) := by decide +kernel
theorem dX9_sheet_21 : decode cX9_sheet 21 = .ok (.ifCond .eq 9, 3) := by decide +kernel
theorem dX9_sheet_24 : decode cX9_sheet 24 = .ok (.iload_n 3, 1) := by decide +kernel
theorem dX9_sheet_25 : decode cX9_sheet 25 = .ok (.bipush 40, 2) := by decide +kernel
theorem dX9_sheet_27 : decode cX9_sheet 27 = .ok (.if_icmp .le 6, 3) := by decide +kernel
theorem dX9_sheet_30 : decode cX9_sheet 30 = .ok (.ldc 91, 2) := by decide +kernel
theorem dX9_sheet_32 : decode cX9_sheet 32 = .ok (.ireturn, 1) := by decide +kernel
theorem dX9_sheet_33 : decode cX9_sheet 33 = .ok (.aload_n 0, 1) := by decide +kernel
theorem dX9_sheet_34 : decode cX9_sheet 34 = .ok (.iconst 0, 1) := by decide +kernel
theorem dX9_sheet_35 : decode cX9_sheet 35 = .ok (.putfield 75, 3) := by decide +kernel
theorem dX9_sheet_38 : decode cX9_sheet 38 = .ok (.iload_n 3, 1) := by decide +kernel
theorem dX9_sheet_39 : decode cX9_sheet 39 = .ok (.ifCond .ge 9, 3) := by decide +kernel
theorem dX9_sheet_42 : decode cX9_sheet 42 = .ok (.aload_n 0, 1) := by decide +kernel
theorem dX9_sheet_43 : decode cX9_sheet 43 = .ok (.iconst 4, 1) := by decide +kernel
theorem dX9_sheet_44 : decode cX9_sheet 44 = .ok (.invokevirtual 92, 3) := by decide +kernel
theorem dX9_sheet_47 : decode cX9_sheet 47 = .ok (.ireturn, 1) := by decide +kernel
theorem dX9_sheet_48 : decode cX9_sheet 48 = .ok (.aload_n 0, 1) := by decide +kernel
theorem dX9_sheet_49 : decode cX9_sheet 49 = .ok (.getfield 7, 3) := by decide +kernel
theorem dX9_sheet_52 : decode cX9_sheet 52 = .ok (.iload_n 1, 1) := by decide +kernel
theorem dX9_sheet_53 : decode cX9_sheet 53 = .ok (.iload_n 2, 1) := by decide +kernel
theorem dX9_sheet_54 : decode cX9_sheet 54 = .ok (.iastore, 1) := by decide +kernel
theorem dX9_sheet_55 : decode cX9_sheet 55 = .ok (.aload_n 0, 1) := by decide +kernel
theorem dX9_sheet_56 : decode cX9_sheet 56 = .ok (.getfield 13, 3) := by decide +kernel
theorem dX9_sheet_59 : decode cX9_sheet 59 = .ok (.iload_n 1, 1) := by decide +kernel
theorem dX9_sheet_60 : decode cX9_sheet 60 = .ok (.iload_n 3, 1) := by decide +kernel
theorem dX9_sheet_61 : decode cX9_sheet 61 = .ok (.iastore, 1) := by decide +kernel
theorem dX9_sheet_62 : decode cX9_sheet 62 = .ok (.iconst 0, 1) := by decide +kernel
theorem dX9_sheet_63 : decode cX9_sheet 63 = .ok (.istore 4, 2) := by decide +kernel
theorem dX9_sheet_65 : decode cX9_sheet 65 = .ok (.iload 4, 2) := by decide +kernel
theorem dX9_sheet_67 : decode cX9_sheet 67 = .ok (.bipush 40, 2) := by decide +kernel
theorem dX9_sheet_69 : decode cX9_sheet 69 = .ok (.if_icmp .ge 22, 3) := by decide +kernel
theorem dX9_sheet_72 : decode cX9_sheet 72 = .ok (.aload_n 0, 1) := by decide +kernel
theorem dX9_sheet_73 : decode cX9_sheet 73 = .ok (.getfield 16, 3) := by decide +kernel
theorem dX9_sheet_76 : decode cX9_sheet 76 = .ok (.bipush 40, 2) := by decide +kernel
theorem dX9_sheet_78 : decode cX9_sheet 78 = .ok (.iload_n 1, 1) := by decide +kernel
theorem dX9_sheet_79 : decode cX9_sheet 79 = .ok (.imul, 1) := by decide +kernel
theorem dX9_sheet_80 : decode cX9_sheet 80 = .ok (.iload 4, 2) := by decide +kernel
theorem dX9_sheet_82 : decode cX9_sheet 82 = .ok (.iadd, 1) := by decide +kernel
theorem dX9_sheet_83 : decode cX9_sheet 83 = .ok (.iconst 0, 1) := by decide +kernel
theorem dX9_sheet_84 : decode cX9_sheet 84 = .ok (.iastore, 1) := by decide +kernel
theorem dX9_sheet_85 : decode cX9_sheet 85 = .ok (.iinc 4 1, 3) := by decide +kernel
theorem dX9_sheet_88 : decode cX9_sheet 88 = .ok (.goto (-23), 3) := by decide +kernel
theorem dX9_sheet_91 : decode cX9_sheet 91 = .ok (.iload_n 3, 1) := by decide +kernel
theorem dX9_sheet_92 : decode cX9_sheet 92 = .ok (.ireturn, 1) := by decide +kernel
theorem dX9_set_0 : decode cX9_set 0 = .ok (.aload_n 0, 1) := by decide +kernel
theorem dX9_set_1 : decode cX9_set 1 = .ok (.iconst 0, 1) := by decide +kernel
theorem dX9_set_2 : decode cX9_set 2 = .ok (.putfield 71, 3) := by decide +kernel
theorem dX9_set_5 : decode cX9_set 5 = .ok (.iload_n 1, 1) := by decide +kernel
theorem dX9_set_6 : decode cX9_set 6 = .ok (.invokestatic 85, 3) := by decide +kernel
theorem dX9_set_9 : decode cX9_set 9 = .ok (.ifCond .ne 6, 3) := by decide +kernel
theorem dX9_set_12 : decode cX9_set 12 = .ok (.ldc 91, 2) := by decide +kernel
theorem dX9_set_14 : decode cX9_set 14 = .ok (.ireturn, 1) := by decide +kernel
theorem dX9_set_15 : decode cX9_set 15 = .ok (.aload_n 0, 1) := by decide +kernel
theorem dX9_set_16 : decode cX9_set 16 = .ok (.iconst 0, 1) := by decide +kernel
theorem dX9_set_17 : decode cX9_set 17 = .ok (.putfield 75, 3) := by decide +kernel
theorem dX9_set_20 : decode cX9_set 20 = .ok (.aload_n 0, 1) := by decide +kernel
theorem dX9_set_21 : decode cX9_set 21 = .ok (.getfield 7, 3) := by decide +kernel
theorem dX9_set_24 : decode cX9_set 24 = .ok (.iload_n 1, 1) := by decide +kernel
theorem dX9_set_25 : decode cX9_set 25 = .ok (.iaload, 1) := by decide +kernel
theorem dX9_set_26 : decode cX9_set 26 = .ok (.ifCond .ge 9, 3) := by decide +kernel
theorem dX9_set_29 : decode cX9_set 29 = .ok (.aload_n 0, 1) := by decide +kernel
theorem dX9_set_30 : decode cX9_set 30 = .ok (.iconst 1, 1) := by decide +kernel
theorem dX9_set_31 : decode cX9_set 31 = .ok (.invokevirtual 92, 3) := by decide +kernel
theorem dX9_set_34 : decode cX9_set 34 = .ok (.ireturn, 1) := by decide +kernel
theorem dX9_set_35 : decode cX9_set 35 = .ok (.iload_n 2, 1) := by decide +kernel
theorem dX9_set_36 : decode cX9_set 36 = .ok (.i2l, 1) := by decide +kernel
theorem dX9_set_37 : decode cX9_set 37 = .ok (.lconst 0, 1) := by decide +kernel
theorem dX9_set_38 : decode cX9_set 38 = .ok (.aload_n 0, 1) := by decide +kernel
theorem dX9_set_39 : decode cX9_set 39 = .ok (.getfield 13, 3) := by decide +kernel
theorem dX9_set_42 : decode cX9_set 42 = .ok (.iload_n 1, 1) := by decide +kernel
theorem dX9_set_43 : decode cX9_set 43 = .ok (.iaload, 1) := by decide +kernel
theorem dX9_set_44 : decode cX9_set 44 = .ok (.iconst 1, 1) := by decide +kernel
theorem dX9_set_45 : decode cX9_set 45 = .ok (.isub, 1) := by decide +kernel
theorem dX9_set_46 : decode cX9_set 46 = .ok (.i2l, 1) := by decide +kernel
theorem dX9_set_47 : decode cX9_set 47 = .ok (.invokestatic 81, 3) := by decide +kernel
theorem dX9_set_50 : decode cX9_set 50 = .ok (.ifCond .ne 9, 3) := by decide +kernel
theorem dX9_set_53 : decode cX9_set 53 = .ok (.aload_n 0, 1) := by decide +kernel
theorem dX9_set_54 : decode cX9_set 54 = .ok (.iconst 2, 1) := by decide +kernel
theorem dX9_set_55 : decode cX9_set 55 = .ok (.invokevirtual 92, 3) := by decide +kernel
theorem dX9_set_58 : decode cX9_set 58 = .ok (.ireturn, 1) := by decide +kernel
theorem dX9_set_59 : decode cX9_set 59 = .ok (.aload_n 0, 1) := by decide +kernel
theorem dX9_set_60 : decode cX9_set 60 = .ok (.getfield 16, 3) := by decide +kernel
theorem dX9_set_63 : decode cX9_set 63 = .ok (.bipush 40, 2) := by decide +kernel
theorem dX9_set_65 : decode cX9_set 65 = .ok (.iload_n 1, 1) := by decide +kernel
theorem dX9_set_66 : decode cX9_set 66 = .ok (.imul, 1) := by decide +kernel
theorem dX9_set_67 : decode cX9_set 67 = .ok (.iload_n 2, 1) := by decide +kernel
theorem dX9_set_68 : decode cX9_set 68 = .ok (.iadd, 1) := by decide +kernel
theorem dX9_set_69 : decode cX9_set 69 = .ok (.aload_n 0, 1) := by decide +kernel
theorem dX9_set_70 : decode cX9_set 70 = .ok (.getfield 7, 3) := by decide +kernel
theorem dX9_set_73 : decode cX9_set 73 = .ok (.iload_n 1, 1) := by decide +kernel
theorem dX9_set_74 : decode cX9_set 74 = .ok (.iaload, 1) := by decide +kernel
theorem dX9_set_75 : decode cX9_set 75 = .ok (.ifCond .ne 8, 3) := by decide +kernel
theorem dX9_set_78 : decode cX9_set 78 = .ok (.iload_n 3, 1) := by decide +kernel
theorem dX9_set_79 : decode cX9_set 79 = .ok (.i2b, 1) := by decide +kernel
theorem dX9_set_80 : decode cX9_set 80 = .ok (.goto 19, 3) := by decide +kernel
theorem dX9_set_83 : decode cX9_set 83 = .ok (.aload_n 0, 1) := by decide +kernel
theorem dX9_set_84 : decode cX9_set 84 = .ok (.getfield 7, 3) := by decide +kernel
theorem dX9_set_87 : decode cX9_set 87 = .ok (.iload_n 1, 1) := by decide +kernel
theorem dX9_set_88 : decode cX9_set 88 = .ok (.iaload, 1) := by decide +kernel
theorem dX9_set_89 : decode cX9_set 89 = .ok (.iconst 1, 1) := by decide +kernel
theorem dX9_set_90 : decode cX9_set 90 = .ok (.if_icmp .ne 8, 3) := by decide +kernel
theorem dX9_set_93 : decode cX9_set 93 = .ok (.iload_n 3, 1) := by decide +kernel
theorem dX9_set_94 : decode cX9_set 94 = .ok (.i2s, 1) := by decide +kernel
theorem dX9_set_95 : decode cX9_set 95 = .ok (.goto 4, 3) := by decide +kernel
theorem dX9_set_98 : decode cX9_set 98 = .ok (.iload_n 3, 1) := by decide +kernel
theorem dX9_set_99 : decode cX9_set 99 = .ok (.iastore, 1) := by decide +kernel
theorem dX9_set_100 : decode cX9_set 100 = .ok (.aload_n 0, 1) := by decide +kernel
theorem dX9_set_101 : decode cX9_set 101 = .ok (.getfield 16, 3) := by decide +kernel
theorem dX9_set_104 : decode cX9_set 104 = .ok (.bipush 40, 2) := by decide +kernel
theorem dX9_set_106 : decode cX9_set 106 = .ok (.iload_n 1, 1) := by decide +kernel
theorem dX9_set_107 : decode cX9_set 107 = .ok (.imul, 1) := by decide +kernel
theorem dX9_set_108 : decode cX9_set 108 = .ok (.iload_n 2, 1) := by decide +kernel
theorem dX9_set_109 : decode cX9_set 109 = .ok (.iadd, 1) := by decide +kernel
theorem dX9_set_110 : decode cX9_set 110 = .ok (.iaload, 1) := by decide +kernel
theorem dX9_set_111 : decode cX9_set 111 = .ok (.ireturn, 1) := by decide +kernel
theorem dX9_copy_0 : decode cX9_copy 0 = .ok (.aload_n 0, 1) := by decide +kernel
theorem dX9_copy_1 : decode cX9_copy 1 = .ok (.iconst 0, 1) := by decide +kernel
theorem dX9_copy_2 : decode cX9_copy 2 = .ok (.putfield 71, 3) := by decide +kernel
theorem dX9_copy_5 : decode cX9_copy 5 = .ok (.iload_n 1, 1) := by decide +kernel
theorem dX9_copy_6 : decode cX9_copy 6 = .ok (.invokestatic 85, 3) := by decide +kernel
theorem dX9_copy_9 : decode cX9_copy 9 = .ok (.ifCond .eq 10, 3) := by decide +kernel
end
section
theorem dX9_copy_12 : decode cX9_copy 12 = .ok (.iload_n 3, 1) := by decide +kernel
theorem dX9_copy_13 : decode cX9_copy 13 = .ok (.invokestatic 85, 3) := by decide +kernel
theorem dX9_copy_16 : decode cX9_copy 16 = .ok (.ifCond .ne 6, 3) := by decide +kernel
theorem dX9_copy_19 : decode cX9_copy 19 = .ok (.ldc 91, 2) := by decide +kernel
theorem dX9_copy_21 : decode cX9_copy 21 = .ok (.ireturn, 1) := by decide +kernel
theorem dX9_copy_22 : decode cX9_copy 22 = .ok (.aload_n 0, 1) := by decide +kernel
theorem dX9_copy_23 : decode cX9_copy 23 = .ok (.iconst 0, 1) := by decide +kernel
theorem dX9_copy_24 : decode cX9_copy 24 = .ok (.putfield 75, 3) := by decide +kernel
theorem dX9_copy_27 : decode cX9_copy 27 = .ok (.aload_n 0, 1) := by decide +kernel
theorem dX9_copy_28 : decode cX9_copy 28 = .ok (.getfield 7, 3) := by decide +kernel
theorem dX9_copy_31 : decode cX9_copy 31 = .ok (.iload_n 1, 1) := by decide +kernel
theorem dX9_copy_32 : decode cX9_copy 32 = .ok (.iaload, 1) := by decide +kernel
theorem dX9_copy_33 : decode cX9_copy 33 = .ok (.ifCond .lt 12, 3) := by decide +kernel
theorem dX9_copy_36 : decode cX9_copy 36 = .ok (.aload_n 0, 1) := by decide +kernel
theorem dX9_copy_37 : decode cX9_copy 37 = .ok (.getfield 7, 3) := by decide +kernel
theorem dX9_copy_40 : decode cX9_copy 40 = .ok (.iload_n 3, 1) := by decide +kernel
theorem dX9_copy_41 : decode cX9_copy 41 = .ok (.iaload, 1) := by decide +kernel
theorem dX9_copy_42 : decode cX9_copy 42 = .ok (.ifCond .ge 9, 3) := by decide +kernel
theorem dX9_copy_45 : decode cX9_copy 45 = .ok (.aload_n 0, 1) := by decide +kernel
theorem dX9_copy_46 : decode cX9_copy 46 = .ok (.iconst 1, 1) := by decide +kernel
theorem dX9_copy_47 : decode cX9_copy 47 = .ok (.invokevirtual 92, 3) := by decide +kernel
theorem dX9_copy_50 : decode cX9_copy 50 = .ok (.ireturn, 1) := by decide +kernel
theorem dX9_copy_51 : decode cX9_copy 51 = .ok (.aload_n 0, 1) := by decide +kernel
theorem dX9_copy_52 : decode cX9_copy 52 = .ok (.getfield 7, 3) := by decide +kernel
theorem dX9_copy_55 : decode cX9_copy 55 = .ok (.iload_n 1, 1) := by decide +kernel
theorem dX9_copy_56 : decode cX9_copy 56 = .ok (.iaload, 1) := by decide +kernel
theorem dX9_copy_57 : decode cX9_copy 57 = .ok (.aload_n 0, 1) := by decide +kernel
theorem dX9_copy_58 : decode cX9_copy 58 = .ok (.getfield 7, 3) := by decide +kernel
theorem dX9_copy_61 : decode cX9_copy 61 = .ok (.iload_n 3, 1) := by decide +kernel
theorem dX9_copy_62 : decode cX9_copy 62 = .ok (.iaload, 1) := by decide +kernel
theorem dX9_copy_63 : decode cX9_copy 63 = .ok (.if_icmp .eq 9, 3) := by decide +kernel
theorem dX9_copy_66 : decode cX9_copy 66 = .ok (.aload_n 0, 1) := by decide +kernel
theorem dX9_copy_67 : decode cX9_copy 67 = .ok (.iconst 5, 1) := by decide +kernel
theorem dX9_copy_68 : decode cX9_copy 68 = .ok (.invokevirtual 92, 3) := by decide +kernel
theorem dX9_copy_71 : decode cX9_copy 71 = .ok (.ireturn, 1) := by decide +kernel
theorem dX9_copy_72 : decode cX9_copy 72 = .ok (.iload_n 2, 1) := by decide +kernel
theorem dX9_copy_73 : decode cX9_copy 73 = .ok (.ifCond .lt 48, 3) := by decide +kernel
theorem dX9_copy_76 : decode cX9_copy 76 = .ok (.iload 4, 2) := by decide +kernel
theorem dX9_copy_78 : decode cX9_copy 78 = .ok (.ifCond .lt 43, 3) := by decide +kernel
theorem dX9_copy_81 : decode cX9_copy 81 = .ok (.iload 5, 2) := by decide +kernel
theorem dX9_copy_83 : decode cX9_copy 83 = .ok (.ifCond .lt 38, 3) := by decide +kernel
theorem dX9_copy_86 : decode cX9_copy 86 = .ok (.iload_n 2, 1) := by decide +kernel
theorem dX9_copy_87 : decode cX9_copy 87 = .ok (.i2l, 1) := by decide +kernel
theorem dX9_copy_88 : decode cX9_copy 88 = .ok (.iload 5, 2) := by decide +kernel
theorem dX9_copy_90 : decode cX9_copy 90 = .ok (.i2l, 1) := by decide +kernel
theorem dX9_copy_91 : decode cX9_copy 91 = .ok (.ladd, 1) := by decide +kernel
theorem dX9_copy_92 : decode cX9_copy 92 = .ok (.aload_n 0, 1) := by decide +kernel
theorem dX9_copy_93 : decode cX9_copy 93 = .ok (.getfield 13, 3) := by decide +kernel
theorem dX9_copy_96 : decode cX9_copy 96 = .ok (.iload_n 1, 1) := by decide +kernel
theorem dX9_copy_97 : decode cX9_copy 97 = .ok (.iaload, 1) := by decide +kernel
theorem dX9_copy_98 : decode cX9_copy 98 = .ok (.i2l, 1) := by decide +kernel
theorem dX9_copy_99 : decode cX9_copy 99 = .ok (.lcmp, 1) := by decide +kernel
theorem dX9_copy_100 : decode cX9_copy 100 = .ok (.ifCond .gt 21, 3) := by decide +kernel
theorem dX9_copy_103 : decode cX9_copy 103 = .ok (.iload 4, 2) := by decide +kernel
theorem dX9_copy_105 : decode cX9_copy 105 = .ok (.i2l, 1) := by decide +kernel
theorem dX9_copy_106 : decode cX9_copy 106 = .ok (.iload 5, 2) := by decide +kernel
theorem dX9_copy_108 : decode cX9_copy 108 = .ok (.i2l, 1) := by decide +kernel
theorem dX9_copy_109 : decode cX9_copy 109 = .ok (.ladd, 1) := by decide +kernel
theorem dX9_copy_110 : decode cX9_copy 110 = .ok (.aload_n 0, 1) := by decide +kernel
theorem dX9_copy_111 : decode cX9_copy 111 = .ok (.getfield 13, 3) := by decide +kernel
theorem dX9_copy_114 : decode cX9_copy 114 = .ok (.iload_n 3, 1) := by decide +kernel
theorem dX9_copy_115 : decode cX9_copy 115 = .ok (.iaload, 1) := by decide +kernel
theorem dX9_copy_116 : decode cX9_copy 116 = .ok (.i2l, 1) := by decide +kernel
theorem dX9_copy_117 : decode cX9_copy 117 = .ok (.lcmp, 1) := by decide +kernel
theorem dX9_copy_118 : decode cX9_copy 118 = .ok (.ifCond .le 9, 3) := by decide +kernel
theorem dX9_copy_121 : decode cX9_copy 121 = .ok (.aload_n 0, 1) := by decide +kernel
theorem dX9_copy_122 : decode cX9_copy 122 = .ok (.iconst 2, 1) := by decide +kernel
theorem dX9_copy_123 : decode cX9_copy 123 = .ok (.invokevirtual 92, 3) := by decide +kernel
theorem dX9_copy_126 : decode cX9_copy 126 = .ok (.ireturn, 1) := by decide +kernel
theorem dX9_copy_127 : decode cX9_copy 127 = .ok (.iload_n 2, 1) := by decide +kernel
theorem dX9_copy_128 : decode cX9_copy 128 = .ok (.iload 4, 2) := by decide +kernel
theorem dX9_copy_130 : decode cX9_copy 130 = .ok (.if_icmp .lt 7, 3) := by decide +kernel
theorem dX9_copy_133 : decode cX9_copy 133 = .ok (.iconst 1, 1) := by decide +kernel
theorem dX9_copy_134 : decode cX9_copy 134 = .ok (.goto 4, 3) := by decide +kernel
theorem dX9_copy_137 : decode cX9_copy 137 = .ok (.iconst 0, 1) := by decide +kernel
theorem dX9_copy_138 : decode cX9_copy 138 = .ok (.istore 6, 2) := by decide +kernel
theorem dX9_copy_140 : decode cX9_copy 140 = .ok (.iconst 0, 1) := by decide +kernel
theorem dX9_copy_141 : decode cX9_copy 141 = .ok (.istore 7, 2) := by decide +kernel
theorem dX9_copy_143 : decode cX9_copy 143 = .ok (.iload 7, 2) := by decide +kernel
theorem dX9_copy_145 : decode cX9_copy 145 = .ok (.iload 5, 2) := by decide +kernel
theorem dX9_copy_147 : decode cX9_copy 147 = .ok (.if_icmp .ge 57, 3) := by decide +kernel
theorem dX9_copy_150 : decode cX9_copy 150 = .ok (.iload 6, 2) := by decide +kernel
theorem dX9_copy_152 : decode cX9_copy 152 = .ok (.ifCond .eq 8, 3) := by decide +kernel
theorem dX9_copy_155 : decode cX9_copy 155 = .ok (.iload 7, 2) := by decide +kernel
theorem dX9_copy_157 : decode cX9_copy 157 = .ok (.goto 10, 3) := by decide +kernel
theorem dX9_copy_160 : decode cX9_copy 160 = .ok (.iload 5, 2) := by decide +kernel
theorem dX9_copy_162 : decode cX9_copy 162 = .ok (.iconst 1, 1) := by decide +kernel
theorem dX9_copy_163 : decode cX9_copy 163 = .ok (.isub, 1) := by decide +kernel
theorem dX9_copy_164 : decode cX9_copy 164 = .ok (.iload 7, 2) := by decide +kernel
theorem dX9_copy_166 : decode cX9_copy 166 = .ok (.isub, 1) := by decide +kernel
theorem dX9_copy_167 : decode cX9_copy 167 = .ok (.istore 8, 2) := by decide +kernel
theorem dX9_copy_169 : decode cX9_copy 169 = .ok (.aload_n 0, 1) := by decide +kernel
theorem dX9_copy_170 : decode cX9_copy 170 = .ok (.getfield 16, 3) := by decide +kernel
theorem dX9_copy_173 : decode cX9_copy 173 = .ok (.bipush 40, 2) := by decide +kernel
theorem dX9_copy_175 : decode cX9_copy 175 = .ok (.iload_n 3, 1) := by decide +kernel
theorem dX9_copy_176 : decode cX9_copy 176 = .ok (.imul, 1) := by decide +kernel
theorem dX9_copy_177 : decode cX9_copy 177 = .ok (.iload 4, 2) := by decide +kernel
theorem dX9_copy_179 : decode cX9_copy 179 = .ok (.iadd, 1) := by decide +kernel
theorem dX9_copy_180 : decode cX9_copy 180 = .ok (.iload 8, 2) := by decide +kernel
theorem dX9_copy_182 : decode cX9_copy 182 = .ok (.iadd, 1) := by decide +kernel
theorem dX9_copy_183 : decode cX9_copy 183 = .ok (.aload_n 0, 1) := by decide +kernel
theorem dX9_copy_184 : decode cX9_copy 184 = .ok (.getfield 16, 3) := by decide +kernel
theorem dX9_copy_187 : decode cX9_copy 187 = .ok (.bipush 40, 2) := by decide +kernel
theorem dX9_copy_189 : decode cX9_copy 189 = .ok (.iload_n 1, 1) := by decide +kernel
theorem dX9_copy_190 : decode cX9_copy 190 = .ok (.imul, 1) := by decide +kernel
theorem dX9_copy_191 : decode cX9_copy 191 = .ok (.iload_n 2, 1) := by decide +kernel
theorem dX9_copy_192 : decode cX9_copy 192 = .ok (.iadd, 1) := by decide +kernel
theorem dX9_copy_193 : decode cX9_copy 193 = .ok (.iload 8, 2) := by decide +kernel
theorem dX9_copy_195 : decode cX9_copy 195 = .ok (.iadd, 1) := by decide +kernel
theorem dX9_copy_196 : decode cX9_copy 196 = .ok (.iaload, 1) := by decide +kernel
theorem dX9_copy_197 : decode cX9_copy 197 = .ok (.iastore, 1) := by decide +kernel
theorem dX9_copy_198 : decode cX9_copy 198 = .ok (.iinc 7 1, 3) := by decide +kernel
theorem dX9_copy_201 : decode cX9_copy 201 = .ok (.goto (-58), 3) := by decide +kernel
theorem dX9_copy_204 : decode cX9_copy 204 = .ok (.iload 5, 2) := by decide +kernel
theorem dX9_copy_206 : decode cX9_copy 206 = .ok (.ireturn, 1) := by decide +kernel
theorem dX9_drop_0 : decode cX9_drop 0 = .ok (.aload_n 0, 1) := by decide +kernel
theorem dX9_drop_1 : decode cX9_drop 1 = .ok (.iconst 0, 1) := by decide +kernel
theorem dX9_drop_2 : decode cX9_drop 2 = .ok (.putfield 71, 3) := by decide +kernel
theorem dX9_drop_5 : decode cX9_drop 5 = .ok (.iload_n 1, 1) := by decide +kernel
theorem dX9_drop_6 : decode cX9_drop 6 = .ok (.invokestatic 85, 3) := by decide +kernel
theorem dX9_drop_9 : decode cX9_drop 9 = .ok (.ifCond .ne 6, 3) := by decide +kernel
theorem dX9_drop_12 : decode cX9_drop 12 = .ok (.ldc 91, 2) := by decide +kernel
theorem dX9_drop_14 : decode cX9_drop 14 = .ok (.ireturn, 1) := by decide +kernel
theorem dX9_drop_15 : decode cX9_drop 15 = .ok (.aload_n 0, 1) := by decide +kernel
theorem dX9_drop_16 : decode cX9_drop 16 = .ok (.iconst 0, 1) := by decide +kernel
theorem dX9_drop_17 : decode cX9_drop 17 = .ok (.putfield 75, 3) := by decide +kernel
theorem dX9_drop_20 : decode cX9_drop 20 = .ok (.aload_n 0, 1) := by decide +kernel
theorem dX9_drop_21 : decode cX9_drop 21 = .ok (.getfield 7, 3) := by decide +kernel
theorem dX9_drop_24 : decode cX9_drop 24 = .ok (.iload_n 1, 1) := by decide +kernel
theorem dX9_drop_25 : decode cX9_drop 25 = .ok (.iaload, 1) := by decide +kernel
theorem dX9_drop_26 : decode cX9_drop 26 = .ok (.ifCond .ge 9, 3) := by decide +kernel
theorem dX9_drop_29 : decode cX9_drop 29 = .ok (.aload_n 0, 1) := by decide +kernel
theorem dX9_drop_30 : decode cX9_drop 30 = .ok (.iconst 1, 1) := by decide +kernel
theorem dX9_drop_31 : decode cX9_drop 31 = .ok (.invokevirtual 92, 3) := by decide +kernel
theorem dX9_drop_34 : decode cX9_drop 34 = .ok (.ireturn, 1) := by decide +kernel
theorem dX9_drop_35 : decode cX9_drop 35 = .ok (.aload_n 0, 1) := by decide +kernel
theorem dX9_drop_36 : decode cX9_drop 36 = .ok (.getfield 7, 3) := by decide +kernel
theorem dX9_drop_39 : decode cX9_drop 39 = .ok (.iload_n 1, 1) := by decide +kernel
theorem dX9_drop_40 : decode cX9_drop 40 = .ok (.iconst (-1), 1) := by decide +kernel
theorem dX9_drop_41 : decode cX9_drop 41 = .ok (.iastore, 1) := by decide +kernel
theorem dX9_drop_42 : decode cX9_drop 42 = .ok (.aload_n 0, 1) := by decide +kernel
theorem dX9_drop_43 : decode cX9_drop 43 = .ok (.getfield 13, 3) := by decide +kernel
theorem dX9_drop_46 : decode cX9_drop 46 = .ok (.iload_n 1, 1) := by decide +kernel
theorem dX9_drop_47 : decode cX9_drop 47 = .ok (.iaload, 1) := by decide +kernel
theorem dX9_drop_48 : decode cX9_drop 48 = .ok (.ireturn, 1) := by decide +kernel
theorem dX9_feed_0 : decode cX9_feed 0 = .ok (.aload_n 0, 1) := by decide +kernel
theorem dX9_feed_1 : decode cX9_feed 1 = .ok (.iconst 0, 1) := by decide +kernel
theorem dX9_feed_2 : decode cX9_feed 2 = .ok (.putfield 71, 3) := by decide +kernel
theorem dX9_feed_5 : decode cX9_feed 5 = .ok (.iload_n 3, 1) := by decide +kernel
theorem dX9_feed_6 : decode cX9_feed 6 = .ok (.i2l, 1) := by decide +kernel
theorem dX9_feed_7 : decode cX9_feed 7 = .ok (.lconst 1, 1) := by decide +kernel
theorem dX9_feed_8 : decode cX9_feed 8 = .ok (.ldc2_w 96, 3) := by decide +kernel
theorem dX9_feed_11 : decode cX9_feed 11 = .ok (.invokestatic 81, 3) := by decide +kernel
theorem dX9_feed_14 : decode cX9_feed 14 = .ok (.ifCond .ne 6, 3) := by decide +kernel
theorem dX9_feed_17 : decode cX9_feed 17 = .ok (.ldc 91, 2) := by decide +kernel
theorem dX9_feed_19 : decode cX9_feed 19 = .ok (.ireturn, 1) := by decide +kernel
theorem dX9_feed_20 : decode cX9_feed 20 = .ok (.aload_n 0, 1) := by decide +kernel
theorem dX9_feed_21 : decode cX9_feed 21 = .ok (.getfield 98, 3) := by decide +kernel
theorem dX9_feed_24 : decode cX9_feed 24 = .ok (.iload_n 3, 1) := by decide +kernel
theorem dX9_feed_25 : decode cX9_feed 25 = .ok (.iadd, 1) := by decide +kernel
theorem dX9_feed_26 : decode cX9_feed 26 = .ok (.sipush 500, 3) := by decide +kernel
theorem dX9_feed_29 : decode cX9_feed 29 = .ok (.if_icmp .le 6, 3) := by decide +kernel
theorem dX9_feed_32 : decode cX9_feed 32 = .ok (.ldc 101, 2) := by decide +kernel
theorem dX9_feed_34 : decode cX9_feed 34 = .ok (.ireturn, 1) := by decide +kernel
theorem dX9_feed_35 : decode cX9_feed 35 = .ok (.iload_n 3, 1) := by decide +kernel
theorem dX9_feed_36 : decode cX9_feed 36 = .ok (.iconst 1, 1) := by decide +kernel
theorem dX9_feed_37 : decode cX9_feed 37 = .ok (.isub, 1) := by decide +kernel
theorem dX9_feed_38 : decode cX9_feed 38 = .ok (.istore 4, 2) := by decide +kernel
theorem dX9_feed_40 : decode cX9_feed 40 = .ok (.iload 4, 2) := by decide +kernel
theorem dX9_feed_42 : decode cX9_feed 42 = .ok (.ifCond .lt 40, 3) := by decide +kernel
theorem dX9_feed_45 : decode cX9_feed 45 = .ok (.aload_n 0, 1) := by decide +kernel
theorem dX9_feed_46 : decode cX9_feed 46 = .ok (.getfield 37, 3) := by decide +kernel
theorem dX9_feed_49 : decode cX9_feed 49 = .ok (.aload_n 0, 1) := by decide +kernel
theorem dX9_feed_50 : decode cX9_feed 50 = .ok (.getfield 98, 3) := by decide +kernel
theorem dX9_feed_53 : decode cX9_feed 53 = .ok (.lload_n 1, 1) := by decide +kernel
theorem dX9_feed_54 : decode cX9_feed 54 = .ok (.bipush 8, 2) := by decide +kernel
theorem dX9_feed_56 : decode cX9_feed 56 = .ok (.iload 4, 2) := by decide +kernel
theorem dX9_feed_58 : decode cX9_feed 58 = .ok (.imul, 1) := by decide +kernel
theorem dX9_feed_59 : decode cX9_feed 59 = .ok (.lshr, 1) := by decide +kernel
theorem dX9_feed_60 : decode cX9_feed 60 = .ok (.ldc2_w 102, 3) := by decide +kernel
theorem dX9_feed_63 : decode cX9_feed 63 = .ok (.land, 1) := by decide +kernel
theorem dX9_feed_64 : decode cX9_feed 64 = .ok (.l2i, 1) := by decide +kernel
theorem dX9_feed_65 : decode cX9_feed 65 = .ok (.iastore, 1) := by decide +kernel
theorem dX9_feed_66 : decode cX9_feed 66 = .ok (.aload_n 0, 1) := by decide +kernel
theorem dX9_feed_67 : decode cX9_feed 67 = .ok (.dup, 1) := by decide +kernel
theorem dX9_feed_68 : decode cX9_feed 68 = .ok (.getfield 98, 3) := by decide +kernel
theorem dX9_feed_71 : decode cX9_feed 71 = .ok (.iconst 1, 1) := by decide +kernel
theorem dX9_feed_72 : decode cX9_feed 72 = .ok (.iadd, 1) := by decide +kernel
theorem dX9_feed_73 : decode cX9_feed 73 = .ok (.putfield 98, 3) := by decide +kernel
theorem dX9_feed_76 : decode cX9_feed 76 = .ok (.iinc 4 (-1), 3) := by decide +kernel
theorem dX9_feed_79 : decode cX9_feed 79 = .ok (.goto (-39), 3) := by decide +kernel
theorem dX9_feed_82 : decode cX9_feed 82 = .ok (.aload_n 0, 1) := by decide +kernel
theorem dX9_feed_83 : decode cX9_feed 83 = .ok (.getfield 98, 3) := by decide +kernel
theorem dX9_feed_86 : decode cX9_feed 86 = .ok (.ireturn, 1) := by decide +kernel
theorem dX9_byteAt_0 : decode cX9_byteAt 0 = .ok (.iload_n 1, 1) := by decide +kernel
theorem dX9_byteAt_1 : decode cX9_byteAt 1 = .ok (.aload_n 0, 1) := by decide +kernel
theorem dX9_byteAt_2 : decode cX9_byteAt 2 = .ok (.getfield 104, 3) := by decide +kernel
theorem dX9_byteAt_5 : decode cX9_byteAt 5 = .ok (.if_icmp .ge 12, 3) := by decide +kernel
theorem dX9_byteAt_8 : decode cX9_byteAt 8 = .ok (.aload_n 0, 1) := by decide +kernel
theorem dX9_byteAt_9 : decode cX9_byteAt 9 = .ok (.getfield 37, 3) := by decide +kernel
theorem dX9_byteAt_12 : decode cX9_byteAt 12 = .ok (.iload_n 1, 1) := by decide +kernel
theorem dX9_byteAt_13 : decode cX9_byteAt 13 = .ok (.iaload, 1) := by decide +kernel
theorem dX9_byteAt_14 : decode cX9_byteAt 14 = .ok (.goto 5, 3) := by decide +kernel
theorem dX9_byteAt_17 : decode cX9_byteAt 17 = .ok (.ldc 107, 2) := by decide +kernel
theorem dX9_byteAt_19 : decode cX9_byteAt 19 = .ok (.ireturn, 1) := by decide +kernel
theorem dX9_isLetter_0 : decode cX9_isLetter 0 = .ok (.iload_n 0, 1) := by decide +kernel
theorem dX9_isLetter_1 : decode cX9_isLetter 1 = .ok (.bipush 97, 2) := by decide +kernel
theorem dX9_isLetter_3 : decode cX9_isLetter 3 = .ok (.if_icmp .lt 13, 3) := by decide +kernel
theorem dX9_isLetter_6 : decode cX9_isLetter 6 = .ok (.iload_n 0, 1) := by decide +kernel
theorem dX9_isLetter_7 : decode cX9_isLetter 7 = .ok (.bipush 122, 2) := by decide +kernel
theorem dX9_isLetter_9 : decode cX9_isLetter 9 = .ok (.if_icmp .gt 7, 3) := by decide +kernel
theorem dX9_isLetter_12 : decode cX9_isLetter 12 = .ok (.iconst 1, 1) := by decide +kernel
theorem dX9_isLetter_13 : decode cX9_isLetter 13 = .ok (.goto 4, 3) := by decide +kernel
theorem dX9_isLetter_16 : decode cX9_isLetter 16 = .ok (.iconst 0, 1) := by decide +kernel
theorem dX9_isLetter_17 : decode cX9_isLetter 17 = .ok (.ireturn, 1) := by decide +kernel
theorem dX9_isFigure_0 : decode cX9_isFigure 0 = .ok (.iload_n 0, 1) := by decide +kernel
theorem dX9_isFigure_1 : decode cX9_isFigure 1 = .ok (.bipush 48, 2) := by decide +kernel
theorem dX9_isFigure_3 : decode cX9_isFigure 3 = .ok (.if_icmp .lt 13, 3) := by decide +kernel
theorem dX9_isFigure_6 : decode cX9_isFigure 6 = .ok (.iload_n 0, 1) := by decide +kernel
theorem dX9_isFigure_7 : decode cX9_isFigure 7 = .ok (.bipush 57, 2) := by decide +kernel
theorem dX9_isFigure_9 : decode cX9_isFigure 9 = .ok (.if_icmp .gt 7, 3) := by decide +kernel
theorem dX9_isFigure_12 : decode cX9_isFigure 12 = .ok (.iconst 1, 1) := by decide +kernel
theorem dX9_isFigure_13 : decode cX9_isFigure 13 = .ok (.goto 4, 3) := by decide +kernel
theorem dX9_isFigure_16 : decode cX9_isFigure 16 = .ok (.iconst 0, 1) := by decide +kernel
theorem dX9_isFigure_17 : decode cX9_isFigure 17 = .ok (.ireturn, 1) := by decide +kernel
theorem dX9_next_0 : decode cX9_next 0 = .ok (.aload_n 0, 1) := by decide +kernel
theorem dX9_next_1 : decode cX9_next 1 = .ok (.aload_n 0, 1) := by decide +kernel
theorem dX9_next_2 : decode cX9_next 2 = .ok (.getfield 108, 3) := by decide +kernel
theorem dX9_next_5 : decode cX9_next 5 = .ok (.invokevirtual 111, 3) := by decide +kernel
theorem dX9_next_8 : decode cX9_next 8 = .ok (.bipush 32, 2) := by decide +kernel
theorem dX9_next_10 : decode cX9_next 10 = .ok (.if_icmp .eq 16, 3) := by decide +kernel
theorem dX9_next_13 : decode cX9_next 13 = .ok (.aload_n 0, 1) := by decide +kernel
theorem dX9_next_14 : decode cX9_next 14 = .ok (.aload_n 0, 1) := by decide +kernel
theorem dX9_next_15 : decode cX9_next 15 = .ok (.getfield 108, 3) := by decide +kernel
theorem dX9_next_18 : decode cX9_next 18 = .ok (.invokevirtual 111, 3) := by decide +kernel
theorem dX9_next_21 : decode cX9_next 21 = .ok (.bipush 10, 2) := by decide +kernel
theorem dX9_next_23 : decode cX9_next 23 = .ok (.if_icmp .ne 16, 3) := by decide +kernel
theorem dX9_next_26 : decode cX9_next 26 = .ok (.aload_n 0, 1) := by decide +kernel
theorem dX9_next_27 : decode cX9_next 27 = .ok (.dup, 1) := by decide +kernel
theorem dX9_next_28 : decode cX9_next 28 = .ok (.getfield 108, 3) := by decide +kernel
theorem dX9_next_31 : decode cX9_next 31 = .ok (.iconst 1, 1) := by decide +kernel
theorem dX9_next_32 : decode cX9_next 32 = .ok (.iadd, 1) := by decide +kernel
theorem dX9_next_33 : decode cX9_next 33 = .ok (.putfield 108, 3) := by decide +kernel
theorem dX9_next_36 : decode cX9_next 36 = .ok (.goto (-36), 3) := by decide +kernel
theorem dX9_next_39 : decode cX9_next 39 = .ok (.aload_n 0, 1) := by decide +kernel
theorem dX9_next_40 : decode cX9_next 40 = .ok (.aload_n 0, 1) := by decide +kernel
theorem dX9_next_41 : decode cX9_next 41 = .ok (.getfield 108, 3) := by decide +kernel
theorem dX9_next_44 : decode cX9_next 44 = .ok (.putfield 114, 3) := by decide +kernel
theorem dX9_next_47 : decode cX9_next 47 = .ok (.aload_n 0, 1) := by decide +kernel
theorem dX9_next_48 : decode cX9_next 48 = .ok (.aload_n 0, 1) := by decide +kernel
theorem dX9_next_49 : decode cX9_next 49 = .ok (.getfield 108, 3) := by decide +kernel
theorem dX9_next_52 : decode cX9_next 52 = .ok (.invokevirtual 111, 3) := by decide +kernel
theorem dX9_next_55 : decode cX9_next 55 = .ok (.istore_n 1, 1) := by decide +kernel
theorem dX9_next_56 : decode cX9_next 56 = .ok (.iload_n 1, 1) := by decide +kernel
theorem dX9_next_57 : decode cX9_next 57 = .ok (.ldc 107, 2) := by decide +kernel
theorem dX9_next_59 : decode cX9_next 59 = .ok (.if_icmp .ne 11, 3) := by decide +kernel
theorem dX9_next_62 : decode cX9_next 62 = .ok (.aload_n 0, 1) := by decide +kernel
theorem dX9_next_63 : decode cX9_next 63 = .ok (.iconst 1, 1) := by decide +kernel
theorem dX9_next_64 : decode cX9_next 64 = .ok (.putfield 117, 3) := by decide +kernel
theorem dX9_next_67 : decode cX9_next 67 = .ok (.goto 129, 3) := by decide +kernel
theorem dX9_next_70 : decode cX9_next 70 = .ok (.iload_n 1, 1) := by decide +kernel
theorem dX9_next_71 : decode cX9_next 71 = .ok (.invokestatic 120, 3) := by decide +kernel
theorem dX9_next_74 : decode cX9_next 74 = .ok (.ifCond .eq 38, 3) := by decide +kernel
theorem dX9_next_77 : decode cX9_next 77 = .ok (.aload_n 0, 1) := by decide +kernel
theorem dX9_next_78 : decode cX9_next 78 = .ok (.aload_n 0, 1) := by decide +kernel
theorem dX9_next_79 : decode cX9_next 79 = .ok (.getfield 108, 3) := by decide +kernel
theorem dX9_next_82 : decode cX9_next 82 = .ok (.invokevirtual 111, 3) := by decide +kernel
theorem dX9_next_85 : decode cX9_next 85 = .ok (.invokestatic 120, 3) := by decide +kernel
theorem dX9_next_88 : decode cX9_next 88 = .ok (.ifCond .eq 16, 3) := by decide +kernel
theorem dX9_next_91 : decode cX9_next 91 = .ok (.aload_n 0, 1) := by decide +kernel
theorem dX9_next_92 : decode cX9_next 92 = .ok (.dup, 1) := by decide +kernel
theorem dX9_next_93 : decode cX9_next 93 = .ok (.getfield 108, 3) := by decide +kernel
theorem dX9_next_96 : decode cX9_next 96 = .ok (.iconst 1, 1) := by decide +kernel
theorem dX9_next_97 : decode cX9_next 97 = .ok (.iadd, 1) := by decide +kernel
theorem dX9_next_98 : decode cX9_next 98 = .ok (.putfield 108, 3) := by decide +kernel
theorem dX9_next_101 : decode cX9_next 101 = .ok (.goto (-24), 3) := by decide +kernel
theorem dX9_next_104 : decode cX9_next 104 = .ok (.aload_n 0, 1) := by decide +kernel
theorem dX9_next_105 : decode cX9_next 105 = .ok (.iconst 2, 1) := by decide +kernel
theorem dX9_next_106 : decode cX9_next 106 = .ok (.putfield 117, 3) := by decide +kernel
theorem dX9_next_109 : decode cX9_next 109 = .ok (.goto 87, 3) := by decide +kernel
theorem dX9_next_112 : decode cX9_next 112 = .ok (.iload_n 1, 1) := by decide +kernel
theorem dX9_next_113 : decode cX9_next 113 = .ok (.invokestatic 123, 3) := by decide +kernel
theorem dX9_next_116 : decode cX9_next 116 = .ok (.ifCond .eq 55, 3) := by decide +kernel
theorem dX9_next_119 : decode cX9_next 119 = .ok (.aload_n 0, 1) := by decide +kernel
theorem dX9_next_120 : decode cX9_next 120 = .ok (.aload_n 0, 1) := by decide +kernel
theorem dX9_next_121 : decode cX9_next 121 = .ok (.getfield 108, 3) := by decide +kernel
theorem dX9_next_124 : decode cX9_next 124 = .ok (.invokevirtual 111, 3) := by decide +kernel
theorem dX9_next_127 : decode cX9_next 127 = .ok (.invokestatic 123, 3) := by decide +kernel
theorem dX9_next_130 : decode cX9_next 130 = .ok (.ifCond .eq 16, 3) := by decide +kernel
theorem dX9_next_133 : decode cX9_next 133 = .ok (.aload_n 0, 1) := by decide +kernel
theorem dX9_next_134 : decode cX9_next 134 = .ok (.dup, 1) := by decide +kernel
theorem dX9_next_135 : decode cX9_next 135 = .ok (.getfield 108, 3) := by decide +kernel
theorem dX9_next_138 : decode cX9_next 138 = .ok (.iconst 1, 1) := by decide +kernel
theorem dX9_next_139 : decode cX9_next 139 = .ok (.iadd, 1) := by decide +kernel
theorem dX9_next_140 : decode cX9_next 140 = .ok (.putfield 108, 3) := by decide +kernel
theorem dX9_next_143 : decode cX9_next 143 = .ok (.goto (-24), 3) := by decide +kernel
theorem dX9_next_146 : decode cX9_next 146 = .ok (.aload_n 0, 1) := by decide +kernel
theorem dX9_next_147 : decode cX9_next 147 = .ok (.aload_n 0, 1) := by decide +kernel
theorem dX9_next_148 : decode cX9_next 148 = .ok (.getfield 108, 3) := by decide +kernel
theorem dX9_next_151 : decode cX9_next 151 = .ok (.aload_n 0, 1) := by decide +kernel
theorem dX9_next_152 : decode cX9_next 152 = .ok (.getfield 114, 3) := by decide +kernel
theorem dX9_next_155 : decode cX9_next 155 = .ok (.isub, 1) := by decide +kernel
theorem dX9_next_156 : decode cX9_next 156 = .ok (.iconst 2, 1) := by decide +kernel
theorem dX9_next_157 : decode cX9_next 157 = .ok (.if_icmp .le 7, 3) := by decide +kernel
theorem dX9_next_160 : decode cX9_next 160 = .ok (.iconst 0, 1) := by decide +kernel
theorem dX9_next_161 : decode cX9_next 161 = .ok (.goto 4, 3) := by decide +kernel
theorem dX9_next_164 : decode cX9_next 164 = .ok (.iconst 3, 1) := by decide +kernel
theorem dX9_next_165 : decode cX9_next 165 = .ok (.putfield 117, 3) := by decide +kernel
theorem dX9_next_168 : decode cX9_next 168 = .ok (.goto 28, 3) := by decide +kernel
theorem dX9_next_171 : decode cX9_next 171 = .ok (.aload_n 0, 1) := by decide +kernel
theorem dX9_next_172 : decode cX9_next 172 = .ok (.dup, 1) := by decide +kernel
theorem dX9_next_173 : decode cX9_next 173 = .ok (.getfield 108, 3) := by decide +kernel
theorem dX9_next_176 : decode cX9_next 176 = .ok (.iconst 1, 1) := by decide +kernel
theorem dX9_next_177 : decode cX9_next 177 = .ok (.iadd, 1) := by decide +kernel
theorem dX9_next_178 : decode cX9_next 178 = .ok (.putfield 108, 3) := by decide +kernel
theorem dX9_next_181 : decode cX9_next 181 = .ok (.aload_n 0, 1) := by decide +kernel
theorem dX9_next_182 : decode cX9_next 182 = .ok (.iload_n 1, 1) := by decide +kernel
theorem dX9_next_183 : decode cX9_next 183 = .ok (.bipush 59, 2) := by decide +kernel
theorem dX9_next_185 : decode cX9_next 185 = .ok (.if_icmp .ne 7, 3) := by decide +kernel
theorem dX9_next_188 : decode cX9_next 188 = .ok (.iconst 4, 1) := by decide +kernel
theorem dX9_next_189 : decode cX9_next 189 = .ok (.goto 4, 3) := by decide +kernel
theorem dX9_next_192 : decode cX9_next 192 = .ok (.iconst 0, 1) := by decide +kernel
theorem dX9_next_193 : decode cX9_next 193 = .ok (.putfield 117, 3) := by decide +kernel
theorem dX9_next_196 : decode cX9_next 196 = .ok (.aload_n 0, 1) := by decide +kernel
theorem dX9_next_197 : decode cX9_next 197 = .ok (.aload_n 0, 1) := by decide +kernel
theorem dX9_next_198 : decode cX9_next 198 = .ok (.getfield 108, 3) := by decide +kernel
theorem dX9_next_201 : decode cX9_next 201 = .ok (.putfield 126, 3) := by decide +kernel
theorem dX9_next_204 : decode cX9_next 204 = .ok (.return_, 1) := by decide +kernel
theorem dX9_bad_0 : decode cX9_bad 0 = .ok (.aload_n 0, 1) := by decide +kernel
theorem dX9_bad_1 : decode cX9_bad 1 = .ok (.getfield 129, 3) := by decide +kernel
theorem dX9_bad_4 : decode cX9_bad 4 = .ok (.ifCond .ne 16, 3) := by decide +kernel
theorem dX9_bad_7 : decode cX9_bad 7 = .ok (.aload_n 0, 1) := by decide +kernel
theorem dX9_bad_8 : decode cX9_bad 8 = .ok (.iload_n 1, 1) := by decide +kernel
theorem dX9_bad_9 : decode cX9_bad 9 = .ok (.putfield 129, 3) := by decide +kernel
theorem dX9_bad_12 : decode cX9_bad 12 = .ok (.aload_n 0, 1) := by decide +kernel
theorem dX9_bad_13 : decode cX9_bad 13 = .ok (.aload_n 0, 1) := by decide +kernel
theorem dX9_bad_14 : decode cX9_bad 14 = .ok (.getfield 114, 3) := by decide +kernel
theorem dX9_bad_17 : decode cX9_bad 17 = .ok (.putfield 132, 3) := by decide +kernel
theorem dX9_bad_20 : decode cX9_bad 20 = .ok (.return_, 1) := by decide +kernel
theorem dX9_must_0 : decode cX9_must 0 = .ok (.iload_n 1, 1) := by decide +kernel
theorem dX9_must_1 : decode cX9_must 1 = .ok (.ifCond .ne 8, 3) := by decide +kernel
theorem dX9_must_4 : decode cX9_must 4 = .ok (.aload_n 0, 1) := by decide +kernel
theorem dX9_must_5 : decode cX9_must 5 = .ok (.iconst 1, 1) := by decide +kernel
theorem dX9_must_6 : decode cX9_must 6 = .ok (.invokevirtual 135, 3) := by decide +kernel
theorem dX9_must_9 : decode cX9_must 9 = .ok (.aload_n 0, 1) := by decide +kernel
theorem dX9_must_10 : decode cX9_must 10 = .ok (.getfield 129, 3) := by decide +kernel
theorem dX9_must_13 : decode cX9_must 13 = .ok (.ifCond .ne 7, 3) := by decide +kernel
theorem dX9_must_16 : decode cX9_must 16 = .ok (.aload_n 0, 1) := by decide +kernel
theorem dX9_must_17 : decode cX9_must 17 = .ok (.invokevirtual 139, 3) := by decide +kernel
theorem dX9_must_20 : decode cX9_must 20 = .ok (.return_, 1) := by decide +kernel
theorem dX9_word_0 : decode cX9_word 0 = .ok (.lconst 0, 1) := by decide +kernel
theorem dX9_word_1 : decode cX9_word 1 = .ok (.lstore_n 1, 1) := by decide +kernel
theorem dX9_word_2 : decode cX9_word 2 = .ok (.aload_n 0, 1) := by decide +kernel
theorem dX9_word_3 : decode cX9_word 3 = .ok (.getfield 114, 3) := by decide +kernel
theorem dX9_word_6 : decode cX9_word 6 = .ok (.istore_n 3, 1) := by decide +kernel
theorem dX9_word_7 : decode cX9_word 7 = .ok (.iload_n 3, 1) := by decide +kernel
theorem dX9_word_8 : decode cX9_word 8 = .ok (.aload_n 0, 1) := by decide +kernel
theorem dX9_word_9 : decode cX9_word 9 = .ok (.getfield 126, 3) := by decide +kernel
theorem dX9_word_12 : decode cX9_word 12 = .ok (.if_icmp .ge 44, 3) := by decide +kernel
theorem dX9_word_15 : decode cX9_word 15 = .ok (.aload_n 0, 1) := by decide +kernel
theorem dX9_word_16 : decode cX9_word 16 = .ok (.getfield 117, 3) := by decide +kernel
theorem dX9_word_19 : decode cX9_word 19 = .ok (.iconst 2, 1) := by decide +kernel
theorem dX9_word_20 : decode cX9_word 20 = .ok (.if_icmp .ne 36, 3) := by decide +kernel
theorem dX9_word_23 : decode cX9_word 23 = .ok (.aload_n 0, 1) := by decide +kernel
theorem dX9_word_24 : decode cX9_word 24 = .ok (.getfield 126, 3) := by decide +kernel
theorem dX9_word_27 : decode cX9_word 27 = .ok (.aload_n 0, 1) := by decide +kernel
theorem dX9_word_28 : decode cX9_word 28 = .ok (.getfield 114, 3) := by decide +kernel
theorem dX9_word_31 : decode cX9_word 31 = .ok (.isub, 1) := by decide +kernel
theorem dX9_word_32 : decode cX9_word 32 = .ok (.bipush 8, 2) := by decide +kernel
theorem dX9_word_34 : decode cX9_word 34 = .ok (.if_icmp .ge 22, 3) := by decide +kernel
theorem dX9_word_37 : decode cX9_word 37 = .ok (.lload_n 1, 1) := by decide +kernel
theorem dX9_word_38 : decode cX9_word 38 = .ok (.bipush 8, 2) := by decide +kernel
theorem dX9_word_40 : decode cX9_word 40 = .ok (.lshl, 1) := by decide +kernel
theorem dX9_word_41 : decode cX9_word 41 = .ok (.aload_n 0, 1) := by decide +kernel
theorem dX9_word_42 : decode cX9_word 42 = .ok (.getfield 37, 3) := by decide +kernel
theorem dX9_word_45 : decode cX9_word 45 = .ok (.iload_n 3, 1) := by decide +kernel
theorem dX9_word_46 : decode cX9_word 46 = .ok (.iaload, 1) := by decide +kernel
theorem dX9_word_47 : decode cX9_word 47 = .ok (.i2l, 1) := by decide +kernel
theorem dX9_word_48 : decode cX9_word 48 = .ok (.lor, 1) := by decide +kernel
theorem dX9_word_49 : decode cX9_word 49 = .ok (.lstore_n 1, 1) := by decide +kernel
theorem dX9_word_50 : decode cX9_word 50 = .ok (.iinc 3 1, 3) := by decide +kernel
theorem dX9_word_53 : decode cX9_word 53 = .ok (.goto (-46), 3) := by decide +kernel
theorem dX9_word_56 : decode cX9_word 56 = .ok (.aload_n 0, 1) := by decide +kernel
theorem dX9_word_57 : decode cX9_word 57 = .ok (.getfield 129, 3) := by decide +kernel
theorem dX9_word_60 : decode cX9_word 60 = .ok (.ifCond .ne 7, 3) := by decide +kernel
theorem dX9_word_63 : decode cX9_word 63 = .ok (.lload_n 1, 1) := by decide +kernel
theorem dX9_word_64 : decode cX9_word 64 = .ok (.goto 4, 3) := by decide +kernel
theorem dX9_word_67 : decode cX9_word 67 = .ok (.lconst 0, 1) := by decide +kernel
theorem dX9_word_68 : decode cX9_word 68 = .ok (.lreturn, 1) := by decide +kernel
theorem dX9_numberIn_0 : decode cX9_numberIn 0 = .ok (.aload_n 0, 1) := by decide +kernel
theorem dX9_numberIn_1 : decode cX9_numberIn 1 = .ok (.getfield 129, 3) := by decide +kernel
theorem dX9_numberIn_4 : decode cX9_numberIn 4 = .ok (.ifCond .le 5, 3) := by decide +kernel
theorem dX9_numberIn_7 : decode cX9_numberIn 7 = .ok (.iconst 0, 1) := by decide +kernel
theorem dX9_numberIn_8 : decode cX9_numberIn 8 = .ok (.ireturn, 1) := by decide +kernel
theorem dX9_numberIn_9 : decode cX9_numberIn 9 = .ok (.iconst 0, 1) := by decide +kernel
theorem dX9_numberIn_10 : decode cX9_numberIn 10 = .ok (.istore 4, 2) := by decide +kernel
theorem dX9_numberIn_12 : decode cX9_numberIn 12 = .ok (.aload_n 0, 1) := by decide +kernel
theorem dX9_numberIn_13 : decode cX9_numberIn 13 = .ok (.getfield 114, 3) := by decide +kernel
theorem dX9_numberIn_16 : decode cX9_numberIn 16 = .ok (.istore 5, 2) := by decide +kernel
theorem dX9_numberIn_18 : decode cX9_numberIn 18 = .ok (.iload 5, 2) := by decide +kernel
theorem dX9_numberIn_20 : decode cX9_numberIn 20 = .ok (.aload_n 0, 1) := by decide +kernel
theorem dX9_numberIn_21 : decode cX9_numberIn 21 = .ok (.getfield 126, 3) := by decide +kernel
theorem dX9_numberIn_24 : decode cX9_numberIn 24 = .ok (.if_icmp .ge 35, 3) := by decide +kernel
theorem dX9_numberIn_27 : decode cX9_numberIn 27 = .ok (.aload_n 0, 1) := by decide +kernel
theorem dX9_numberIn_28 : decode cX9_numberIn 28 = .ok (.getfield 117, 3) := by decide +kernel
theorem dX9_numberIn_31 : decode cX9_numberIn 31 = .ok (.iconst 3, 1) := by decide +kernel
theorem dX9_numberIn_32 : decode cX9_numberIn 32 = .ok (.if_icmp .ne 27, 3) := by decide +kernel
theorem dX9_numberIn_35 : decode cX9_numberIn 35 = .ok (.bipush 10, 2) := by decide +kernel
theorem dX9_numberIn_37 : decode cX9_numberIn 37 = .ok (.iload 4, 2) := by decide +kernel
theorem dX9_numberIn_39 : decode cX9_numberIn 39 = .ok (.imul, 1) := by decide +kernel
theorem dX9_numberIn_40 : decode cX9_numberIn 40 = .ok (.aload_n 0, 1) := by decide +kernel
theorem dX9_numberIn_41 : decode cX9_numberIn 41 = .ok (.getfield 37, 3) := by decide +kernel
theorem dX9_numberIn_44 : decode cX9_numberIn 44 = .ok (.iload 5, 2) := by decide +kernel
theorem dX9_numberIn_46 : decode cX9_numberIn 46 = .ok (.iaload, 1) := by decide +kernel
theorem dX9_numberIn_47 : decode cX9_numberIn 47 = .ok (.iadd, 1) := by decide +kernel
theorem dX9_numberIn_48 : decode cX9_numberIn 48 = .ok (.bipush 48, 2) := by decide +kernel
theorem dX9_numberIn_50 : decode cX9_numberIn 50 = .ok (.isub, 1) := by decide +kernel
theorem dX9_numberIn_51 : decode cX9_numberIn 51 = .ok (.istore 4, 2) := by decide +kernel
theorem dX9_numberIn_53 : decode cX9_numberIn 53 = .ok (.iinc 5 1, 3) := by decide +kernel
theorem dX9_numberIn_56 : decode cX9_numberIn 56 = .ok (.goto (-38), 3) := by decide +kernel
theorem dX9_numberIn_59 : decode cX9_numberIn 59 = .ok (.aload_n 0, 1) := by decide +kernel
theorem dX9_numberIn_60 : decode cX9_numberIn 60 = .ok (.getfield 117, 3) := by decide +kernel
theorem dX9_numberIn_63 : decode cX9_numberIn 63 = .ok (.iconst 3, 1) := by decide +kernel
theorem dX9_numberIn_64 : decode cX9_numberIn 64 = .ok (.if_icmp .ne 27, 3) := by decide +kernel
theorem dX9_numberIn_67 : decode cX9_numberIn 67 = .ok (.iload 4, 2) := by decide +kernel
theorem dX9_numberIn_69 : decode cX9_numberIn 69 = .ok (.i2l, 1) := by decide +kernel
theorem dX9_numberIn_70 : decode cX9_numberIn 70 = .ok (.iload_n 1, 1) := by decide +kernel
theorem dX9_numberIn_71 : decode cX9_numberIn 71 = .ok (.i2l, 1) := by decide +kernel
theorem dX9_numberIn_72 : decode cX9_numberIn 72 = .ok (.iload_n 2, 1) := by decide +kernel
theorem dX9_numberIn_73 : decode cX9_numberIn 73 = .ok (.i2l, 1) := by decide +kernel
theorem dX9_numberIn_74 : decode cX9_numberIn 74 = .ok (.invokestatic 81, 3) := by decide +kernel
theorem dX9_numberIn_77 : decode cX9_numberIn 77 = .ok (.ifCond .eq 9, 3) := by decide +kernel
theorem dX9_numberIn_80 : decode cX9_numberIn 80 = .ok (.iload 4, 2) := by decide +kernel
theorem dX9_numberIn_82 : decode cX9_numberIn 82 = .ok (.iload_n 3, 1) := by decide +kernel
theorem dX9_numberIn_83 : decode cX9_numberIn 83 = .ok (.if_icmp .ne 8, 3) := by decide +kernel
theorem dX9_numberIn_86 : decode cX9_numberIn 86 = .ok (.aload_n 0, 1) := by decide +kernel
theorem dX9_numberIn_87 : decode cX9_numberIn 87 = .ok (.iconst 2, 1) := by decide +kernel
theorem dX9_numberIn_88 : decode cX9_numberIn 88 = .ok (.invokevirtual 135, 3) := by decide +kernel
theorem dX9_numberIn_91 : decode cX9_numberIn 91 = .ok (.aload_n 0, 1) := by decide +kernel
theorem dX9_numberIn_92 : decode cX9_numberIn 92 = .ok (.aload_n 0, 1) := by decide +kernel
theorem dX9_numberIn_93 : decode cX9_numberIn 93 = .ok (.getfield 117, 3) := by decide +kernel
theorem dX9_numberIn_96 : decode cX9_numberIn 96 = .ok (.iconst 3, 1) := by decide +kernel
theorem dX9_numberIn_97 : decode cX9_numberIn 97 = .ok (.if_icmp .ne 7, 3) := by decide +kernel
theorem dX9_numberIn_100 : decode cX9_numberIn 100 = .ok (.iconst 1, 1) := by decide +kernel
theorem dX9_numberIn_101 : decode cX9_numberIn 101 = .ok (.goto 4, 3) := by decide +kernel
theorem dX9_numberIn_104 : decode cX9_numberIn 104 = .ok (.iconst 0, 1) := by decide +kernel
theorem dX9_numberIn_105 : decode cX9_numberIn 105 = .ok (.invokevirtual 142, 3) := by decide +kernel
theorem dX9_numberIn_108 : decode cX9_numberIn 108 = .ok (.iload 4, 2) := by decide +kernel
theorem dX9_numberIn_110 : decode cX9_numberIn 110 = .ok (.ireturn, 1) := by decide +kernel
theorem dX9_kindOfWord_0 : decode cX9_kindOfWord 0 = .ok (.aload_n 0, 1) := by decide +kernel
theorem dX9_kindOfWord_1 : decode cX9_kindOfWord 1 = .ok (.invokevirtual 146, 3) := by decide +kernel
theorem dX9_kindOfWord_4 : decode cX9_kindOfWord 4 = .ok (.lstore_n 1, 1) := by decide +kernel
theorem dX9_kindOfWord_5 : decode cX9_kindOfWord 5 = .ok (.lload_n 1, 1) := by decide +kernel
theorem dX9_kindOfWord_6 : decode cX9_kindOfWord 6 = .ok (.ldc2_w 150, 3) := by decide +kernel
theorem dX9_kindOfWord_9 : decode cX9_kindOfWord 9 = .ok (.lcmp, 1) := by decide +kernel
theorem dX9_kindOfWord_10 : decode cX9_kindOfWord 10 = .ok (.ifCond .ne 7, 3) := by decide +kernel
theorem dX9_kindOfWord_13 : decode cX9_kindOfWord 13 = .ok (.iconst 1, 1) := by decide +kernel
theorem dX9_kindOfWord_14 : decode cX9_kindOfWord 14 = .ok (.goto 118, 3) := by decide +kernel
theorem dX9_kindOfWord_17 : decode cX9_kindOfWord 17 = .ok (.lload_n 1, 1) := by decide +kernel
theorem dX9_kindOfWord_18 : decode cX9_kindOfWord 18 = .ok (.ldc2_w 152, 3) := by decide +kernel
theorem dX9_kindOfWord_21 : decode cX9_kindOfWord 21 = .ok (.lcmp, 1) := by decide +kernel
theorem dX9_kindOfWord_22 : decode cX9_kindOfWord 22 = .ok (.ifCond .ne 7, 3) := by decide +kernel
theorem dX9_kindOfWord_25 : decode cX9_kindOfWord 25 = .ok (.iconst 2, 1) := by decide +kernel
theorem dX9_kindOfWord_26 : decode cX9_kindOfWord 26 = .ok (.goto 106, 3) := by decide +kernel
theorem dX9_kindOfWord_29 : decode cX9_kindOfWord 29 = .ok (.lload_n 1, 1) := by decide +kernel
theorem dX9_kindOfWord_30 : decode cX9_kindOfWord 30 = .ok (.ldc2_w 154, 3) := by decide +kernel
theorem dX9_kindOfWord_33 : decode cX9_kindOfWord 33 = .ok (.lcmp, 1) := by decide +kernel
theorem dX9_kindOfWord_34 : decode cX9_kindOfWord 34 = .ok (.ifCond .ne 7, 3) := by decide +kernel
theorem dX9_kindOfWord_37 : decode cX9_kindOfWord 37 = .ok (.iconst 3, 1) := by decide +kernel
theorem dX9_kindOfWord_38 : decode cX9_kindOfWord 38 = .ok (.goto 94, 3) := by decide +kernel
theorem dX9_kindOfWord_41 : decode cX9_kindOfWord 41 = .ok (.lload_n 1, 1) := by decide +kernel
theorem dX9_kindOfWord_42 : decode cX9_kindOfWord 42 = .ok (.ldc2_w 156, 3) := by decide +kernel
theorem dX9_kindOfWord_45 : decode cX9_kindOfWord 45 = .ok (.lcmp, 1) := by decide +kernel
theorem dX9_kindOfWord_46 : decode cX9_kindOfWord 46 = .ok (.ifCond .ne 7, 3) := by decide +kernel
theorem dX9_kindOfWord_49 : decode cX9_kindOfWord 49 = .ok (.iconst 4, 1) := by decide +kernel
theorem dX9_kindOfWord_50 : decode cX9_kindOfWord 50 = .ok (.goto 82, 3) := by decide +kernel
theorem dX9_kindOfWord_53 : decode cX9_kindOfWord 53 = .ok (.lload_n 1, 1) := by decide +kernel
theorem dX9_kindOfWord_54 : decode cX9_kindOfWord 54 = .ok (.ldc2_w 158, 3) := by decide +kernel
theorem dX9_kindOfWord_57 : decode cX9_kindOfWord 57 = .ok (.lcmp, 1) := by decide +kernel
theorem dX9_kindOfWord_58 : decode cX9_kindOfWord 58 = .ok (.ifCond .ne 7, 3) := by decide +kernel
theorem dX9_kindOfWord_61 : decode cX9_kindOfWord 61 = .ok (.iconst 5, 1) := by decide +kernel
theorem dX9_kindOfWord_62 : decode cX9_kindOfWord 62 = .ok (.goto 70, 3) := by decide +kernel
theorem dX9_kindOfWord_65 : decode cX9_kindOfWord 65 = .ok (.lload_n 1, 1) := by decide +kernel
theorem dX9_kindOfWord_66 : decode cX9_kindOfWord 66 = .ok (.ldc2_w 160, 3) := by decide +kernel
theorem dX9_kindOfWord_69 : decode cX9_kindOfWord 69 = .ok (.lcmp, 1) := by decide +kernel
theorem dX9_kindOfWord_70 : decode cX9_kindOfWord 70 = .ok (.ifCond .ne 8, 3) := by decide +kernel
theorem dX9_kindOfWord_73 : decode cX9_kindOfWord 73 = .ok (.bipush 6, 2) := by decide +kernel
theorem dX9_kindOfWord_75 : decode cX9_kindOfWord 75 = .ok (.goto 57, 3) := by decide +kernel
theorem dX9_kindOfWord_78 : decode cX9_kindOfWord 78 = .ok (.lload_n 1, 1) := by decide +kernel
theorem dX9_kindOfWord_79 : decode cX9_kindOfWord 79 = .ok (.ldc2_w 162, 3) := by decide +kernel
theorem dX9_kindOfWord_82 : decode cX9_kindOfWord 82 = .ok (.lcmp, 1) := by decide +kernel
theorem dX9_kindOfWord_83 : decode cX9_kindOfWord 83 = .ok (.ifCond .ne 8, 3) := by decide +kernel
theorem dX9_kindOfWord_86 : decode cX9_kindOfWord 86 = .ok (.bipush 7, 2) := by decide +kernel
theorem dX9_kindOfWord_88 : decode cX9_kindOfWord 88 = .ok (.goto 44, 3) := by decide +kernel
theorem dX9_kindOfWord_91 : decode cX9_kindOfWord 91 = .ok (.lload_n 1, 1) := by decide +kernel
theorem dX9_kindOfWord_92 : decode cX9_kindOfWord 92 = .ok (.ldc2_w 164, 3) := by decide +kernel
theorem dX9_kindOfWord_95 : decode cX9_kindOfWord 95 = .ok (.lcmp, 1) := by decide +kernel
theorem dX9_kindOfWord_96 : decode cX9_kindOfWord 96 = .ok (.ifCond .ne 8, 3) := by decide +kernel
theorem dX9_kindOfWord_99 : decode cX9_kindOfWord 99 = .ok (.bipush 8, 2) := by decide +kernel
theorem dX9_kindOfWord_101 : decode cX9_kindOfWord 101 = .ok (.goto 31, 3) := by decide +kernel
theorem dX9_kindOfWord_104 : decode cX9_kindOfWord 104 = .ok (.lload_n 1, 1) := by decide +kernel
theorem dX9_kindOfWord_105 : decode cX9_kindOfWord 105 = .ok (.ldc2_w 166, 3) := by decide +kernel
theorem dX9_kindOfWord_108 : decode cX9_kindOfWord 108 = .ok (.lcmp, 1) := by decide +kernel
theorem dX9_kindOfWord_109 : decode cX9_kindOfWord 109 = .ok (.ifCond .ne 8, 3) := by decide +kernel
theorem dX9_kindOfWord_112 : decode cX9_kindOfWord 112 = .ok (.bipush 9, 2) := by decide +kernel
theorem dX9_kindOfWord_114 : decode cX9_kindOfWord 114 = .ok (.goto 18, 3) := by decide +kernel
theorem dX9_kindOfWord_117 : decode cX9_kindOfWord 117 = .ok (.lload_n 1, 1) := by decide +kernel
theorem dX9_kindOfWord_118 : decode cX9_kindOfWord 118 = .ok (.ldc2_w 168, 3) := by decide +kernel
theorem dX9_kindOfWord_121 : decode cX9_kindOfWord 121 = .ok (.lcmp, 1) := by decide +kernel
theorem dX9_kindOfWord_122 : decode cX9_kindOfWord 122 = .ok (.ifCond .ne 8, 3) := by decide +kernel
theorem dX9_kindOfWord_125 : decode cX9_kindOfWord 125 = .ok (.bipush 10, 2) := by decide +kernel
theorem dX9_kindOfWord_127 : decode cX9_kindOfWord 127 = .ok (.goto 5, 3) := by decide +kernel
theorem dX9_kindOfWord_130 : decode cX9_kindOfWord 130 = .ok (.ldc 107, 2) := by decide +kernel
theorem dX9_kindOfWord_132 : decode cX9_kindOfWord 132 = .ok (.ireturn, 1) := by decide +kernel
theorem dX9_mustEnd_0 : decode cX9_mustEnd 0 = .ok (.aload_n 0, 1) := by decide +kernel
theorem dX9_mustEnd_1 : decode cX9_mustEnd 1 = .ok (.getfield 129, 3) := by decide +kernel
theorem dX9_mustEnd_4 : decode cX9_mustEnd 4 = .ok (.ifCond .ne 20, 3) := by decide +kernel
theorem dX9_mustEnd_7 : decode cX9_mustEnd 7 = .ok (.aload_n 0, 1) := by decide +kernel
theorem dX9_mustEnd_8 : decode cX9_mustEnd 8 = .ok (.aload_n 0, 1) := by decide +kernel
theorem dX9_mustEnd_9 : decode cX9_mustEnd 9 = .ok (.getfield 117, 3) := by decide +kernel
theorem dX9_mustEnd_12 : decode cX9_mustEnd 12 = .ok (.iconst 4, 1) := by decide +kernel
theorem dX9_mustEnd_13 : decode cX9_mustEnd 13 = .ok (.if_icmp .ne 7, 3) := by decide +kernel
theorem dX9_mustEnd_16 : decode cX9_mustEnd 16 = .ok (.iconst 1, 1) := by decide +kernel
theorem dX9_mustEnd_17 : decode cX9_mustEnd 17 = .ok (.goto 4, 3) := by decide +kernel
theorem dX9_mustEnd_20 : decode cX9_mustEnd 20 = .ok (.iconst 0, 1) := by decide +kernel
theorem dX9_mustEnd_21 : decode cX9_mustEnd 21 = .ok (.invokevirtual 142, 3) := by decide +kernel
theorem dX9_mustEnd_24 : decode cX9_mustEnd 24 = .ok (.return_, 1) := by decide +kernel
theorem dX9_readAct_0 : decode cX9_readAct 0 = .ok (.aload_n 0, 1) := by decide +kernel
theorem dX9_readAct_1 : decode cX9_readAct 1 = .ok (.getfield 170, 3) := by decide +kernel
theorem dX9_readAct_4 : decode cX9_readAct 4 = .ok (.bipush 40, 2) := by decide +kernel
theorem dX9_readAct_6 : decode cX9_readAct 6 = .ok (.if_icmp .ne 8, 3) := by decide +kernel
theorem dX9_readAct_9 : decode cX9_readAct 9 = .ok (.aload_n 0, 1) := by decide +kernel
theorem dX9_readAct_10 : decode cX9_readAct 10 = .ok (.iconst 3, 1) := by decide +kernel
theorem dX9_readAct_11 : decode cX9_readAct 11 = .ok (.invokevirtual 135, 3) := by decide +kernel
theorem dX9_readAct_14 : decode cX9_readAct 14 = .ok (.aload_n 0, 1) := by decide +kernel
theorem dX9_readAct_15 : decode cX9_readAct 15 = .ok (.iconst 1, 1) := by decide +kernel
theorem dX9_readAct_16 : decode cX9_readAct 16 = .ok (.invokevirtual 142, 3) := by decide +kernel
theorem dX9_readAct_19 : decode cX9_readAct 19 = .ok (.iload_n 1, 1) := by decide +kernel
theorem dX9_readAct_20 : decode cX9_readAct 20 = .ok (.bipush 8, 2) := by decide +kernel
theorem dX9_readAct_22 : decode cX9_readAct 22 = .ok (.if_icmp .ne 15, 3) := by decide +kernel
theorem dX9_readAct_25 : decode cX9_readAct 25 = .ok (.aload_n 0, 1) := by decide +kernel
theorem dX9_readAct_26 : decode cX9_readAct 26 = .ok (.iconst 1, 1) := by decide +kernel
theorem dX9_readAct_27 : decode cX9_readAct 27 = .ok (.bipush 30, 2) := by decide +kernel
theorem dX9_readAct_29 : decode cX9_readAct 29 = .ok (.ldc 107, 2) := by decide +kernel
theorem dX9_readAct_31 : decode cX9_readAct 31 = .ok (.invokevirtual 173, 3) := by decide +kernel
theorem dX9_readAct_34 : decode cX9_readAct 34 = .ok (.goto 16, 3) := by decide +kernel
theorem dX9_readAct_37 : decode cX9_readAct 37 = .ok (.aload_n 0, 1) := by decide +kernel
theorem dX9_readAct_38 : decode cX9_readAct 38 = .ok (.iconst 0, 1) := by decide +kernel
theorem dX9_readAct_39 : decode cX9_readAct 39 = .ok (.aload_n 0, 1) := by decide +kernel
theorem dX9_readAct_40 : decode cX9_readAct 40 = .ok (.getfield 177, 3) := by decide +kernel
theorem dX9_readAct_43 : decode cX9_readAct 43 = .ok (.iconst 1, 1) := by decide +kernel
theorem dX9_readAct_44 : decode cX9_readAct 44 = .ok (.isub, 1) := by decide +kernel
theorem dX9_readAct_45 : decode cX9_readAct 45 = .ok (.ldc 107, 2) := by decide +kernel
theorem dX9_readAct_47 : decode cX9_readAct 47 = .ok (.invokevirtual 173, 3) := by decide +kernel
theorem dX9_readAct_50 : decode cX9_readAct 50 = .ok (.istore_n 2, 1) := by decide +kernel
theorem dX9_readAct_51 : decode cX9_readAct 51 = .ok (.iload_n 1, 1) := by decide +kernel
theorem dX9_readAct_52 : decode cX9_readAct 52 = .ok (.bipush 8, 2) := by decide +kernel
theorem dX9_readAct_54 : decode cX9_readAct 54 = .ok (.if_icmp .ge 15, 3) := by decide +kernel
theorem dX9_readAct_57 : decode cX9_readAct 57 = .ok (.aload_n 0, 1) := by decide +kernel
theorem dX9_readAct_58 : decode cX9_readAct 58 = .ok (.iconst 1, 1) := by decide +kernel
theorem dX9_readAct_59 : decode cX9_readAct 59 = .ok (.bipush 20, 2) := by decide +kernel
theorem dX9_readAct_61 : decode cX9_readAct 61 = .ok (.ldc 107, 2) := by decide +kernel
theorem dX9_readAct_63 : decode cX9_readAct 63 = .ok (.invokevirtual 173, 3) := by decide +kernel
theorem dX9_readAct_66 : decode cX9_readAct 66 = .ok (.goto 5, 3) := by decide +kernel
theorem dX9_readAct_69 : decode cX9_readAct 69 = .ok (.ldc 107, 2) := by decide +kernel
theorem dX9_readAct_71 : decode cX9_readAct 71 = .ok (.istore_n 3, 1) := by decide +kernel
theorem dX9_readAct_72 : decode cX9_readAct 72 = .ok (.aload_n 0, 1) := by decide +kernel
theorem dX9_readAct_73 : decode cX9_readAct 73 = .ok (.getfield 129, 3) := by decide +kernel
theorem dX9_readAct_76 : decode cX9_readAct 76 = .ok (.ifCond .ne 70, 3) := by decide +kernel
theorem dX9_readAct_79 : decode cX9_readAct 79 = .ok (.aload_n 0, 1) := by decide +kernel
theorem dX9_readAct_80 : decode cX9_readAct 80 = .ok (.getfield 28, 3) := by decide +kernel
theorem dX9_readAct_83 : decode cX9_readAct 83 = .ok (.iconst 4, 1) := by decide +kernel
theorem dX9_readAct_84 : decode cX9_readAct 84 = .ok (.aload_n 0, 1) := by decide +kernel
theorem dX9_readAct_85 : decode cX9_readAct 85 = .ok (.getfield 170, 3) := by decide +kernel
theorem dX9_readAct_88 : decode cX9_readAct 88 = .ok (.imul, 1) := by decide +kernel
theorem dX9_readAct_89 : decode cX9_readAct 89 = .ok (.iload_n 1, 1) := by decide +kernel
theorem dX9_readAct_90 : decode cX9_readAct 90 = .ok (.iastore, 1) := by decide +kernel
theorem dX9_readAct_91 : decode cX9_readAct 91 = .ok (.aload_n 0, 1) := by decide +kernel
theorem dX9_readAct_92 : decode cX9_readAct 92 = .ok (.getfield 28, 3) := by decide +kernel
theorem dX9_readAct_95 : decode cX9_readAct 95 = .ok (.iconst 4, 1) := by decide +kernel
theorem dX9_readAct_96 : decode cX9_readAct 96 = .ok (.aload_n 0, 1) := by decide +kernel
theorem dX9_readAct_97 : decode cX9_readAct 97 = .ok (.getfield 170, 3) := by decide +kernel
theorem dX9_readAct_100 : decode cX9_readAct 100 = .ok (.imul, 1) := by decide +kernel
theorem dX9_readAct_101 : decode cX9_readAct 101 = .ok (.iconst 1, 1) := by decide +kernel
theorem dX9_readAct_102 : decode cX9_readAct 102 = .ok (.iadd, 1) := by decide +kernel
theorem dX9_readAct_103 : decode cX9_readAct 103 = .ok (.iload_n 2, 1) := by decide +kernel
theorem dX9_readAct_104 : decode cX9_readAct 104 = .ok (.iastore, 1) := by decide +kernel
theorem dX9_readAct_105 : decode cX9_readAct 105 = .ok (.aload_n 0, 1) := by decide +kernel
theorem dX9_readAct_106 : decode cX9_readAct 106 = .ok (.getfield 28, 3) := by decide +kernel
theorem dX9_readAct_109 : decode cX9_readAct 109 = .ok (.iconst 4, 1) := by decide +kernel
theorem dX9_readAct_110 : decode cX9_readAct 110 = .ok (.aload_n 0, 1) := by decide +kernel
theorem dX9_readAct_111 : decode cX9_readAct 111 = .ok (.getfield 170, 3) := by decide +kernel
theorem dX9_readAct_114 : decode cX9_readAct 114 = .ok (.imul, 1) := by decide +kernel
theorem dX9_readAct_115 : decode cX9_readAct 115 = .ok (.iconst 2, 1) := by decide +kernel
theorem dX9_readAct_116 : decode cX9_readAct 116 = .ok (.iadd, 1) := by decide +kernel
theorem dX9_readAct_117 : decode cX9_readAct 117 = .ok (.iload_n 3, 1) := by decide +kernel
theorem dX9_readAct_118 : decode cX9_readAct 118 = .ok (.iastore, 1) := by decide +kernel
theorem dX9_readAct_119 : decode cX9_readAct 119 = .ok (.aload_n 0, 1) := by decide +kernel
theorem dX9_readAct_120 : decode cX9_readAct 120 = .ok (.getfield 28, 3) := by decide +kernel
theorem dX9_readAct_123 : decode cX9_readAct 123 = .ok (.iconst 4, 1) := by decide +kernel
theorem dX9_readAct_124 : decode cX9_readAct 124 = .ok (.aload_n 0, 1) := by decide +kernel
theorem dX9_readAct_125 : decode cX9_readAct 125 = .ok (.getfield 170, 3) := by decide +kernel
theorem dX9_readAct_128 : decode cX9_readAct 128 = .ok (.imul, 1) := by decide +kernel
theorem dX9_readAct_129 : decode cX9_readAct 129 = .ok (.iconst 3, 1) := by decide +kernel
theorem dX9_readAct_130 : decode cX9_readAct 130 = .ok (.iadd, 1) := by decide +kernel
theorem dX9_readAct_131 : decode cX9_readAct 131 = .ok (.aload_n 0, 1) := by decide +kernel
theorem dX9_readAct_132 : decode cX9_readAct 132 = .ok (.getfield 180, 3) := by decide +kernel
theorem dX9_readAct_135 : decode cX9_readAct 135 = .ok (.iastore, 1) := by decide +kernel
theorem dX9_readAct_136 : decode cX9_readAct 136 = .ok (.aload_n 0, 1) := by decide +kernel
theorem dX9_readAct_137 : decode cX9_readAct 137 = .ok (.dup, 1) := by decide +kernel
theorem dX9_readAct_138 : decode cX9_readAct 138 = .ok (.getfield 170, 3) := by decide +kernel
theorem dX9_readAct_141 : decode cX9_readAct 141 = .ok (.iconst 1, 1) := by decide +kernel
theorem dX9_readAct_142 : decode cX9_readAct 142 = .ok (.iadd, 1) := by decide +kernel
theorem dX9_readAct_143 : decode cX9_readAct 143 = .ok (.putfield 170, 3) := by decide +kernel
theorem dX9_readAct_146 : decode cX9_readAct 146 = .ok (.return_, 1) := by decide +kernel
theorem dX9_readSeam_0 : decode cX9_readSeam 0 = .ok (.aload_n 0, 1) := by decide +kernel
theorem dX9_readSeam_1 : decode cX9_readSeam 1 = .ok (.getfield 180, 3) := by decide +kernel
theorem dX9_readSeam_4 : decode cX9_readSeam 4 = .ok (.bipush 6, 2) := by decide +kernel
theorem dX9_readSeam_6 : decode cX9_readSeam 6 = .ok (.if_icmp .ne 8, 3) := by decide +kernel
theorem dX9_readSeam_9 : decode cX9_readSeam 9 = .ok (.aload_n 0, 1) := by decide +kernel
theorem dX9_readSeam_10 : decode cX9_readSeam 10 = .ok (.iconst 3, 1) := by decide +kernel
theorem dX9_readSeam_11 : decode cX9_readSeam 11 = .ok (.invokevirtual 135, 3) := by decide +kernel
theorem dX9_readSeam_14 : decode cX9_readSeam 14 = .ok (.aload_n 0, 1) := by decide +kernel
theorem dX9_readSeam_15 : decode cX9_readSeam 15 = .ok (.iconst 1, 1) := by decide +kernel
theorem dX9_readSeam_16 : decode cX9_readSeam 16 = .ok (.invokevirtual 142, 3) := by decide +kernel
theorem dX9_readSeam_19 : decode cX9_readSeam 19 = .ok (.aload_n 0, 1) := by decide +kernel
theorem dX9_readSeam_20 : decode cX9_readSeam 20 = .ok (.invokevirtual 183, 3) := by decide +kernel
theorem dX9_readSeam_23 : decode cX9_readSeam 23 = .ok (.istore_n 1, 1) := by decide +kernel
theorem dX9_readSeam_24 : decode cX9_readSeam 24 = .ok (.aload_n 0, 1) := by decide +kernel
theorem dX9_readSeam_25 : decode cX9_readSeam 25 = .ok (.getfield 129, 3) := by decide +kernel
theorem dX9_readSeam_28 : decode cX9_readSeam 28 = .ok (.ifCond .ne 22, 3) := by decide +kernel
theorem dX9_readSeam_31 : decode cX9_readSeam 31 = .ok (.iload_n 1, 1) := by decide +kernel
theorem dX9_readSeam_32 : decode cX9_readSeam 32 = .ok (.ldc 107, 2) := by decide +kernel
theorem dX9_readSeam_34 : decode cX9_readSeam 34 = .ok (.if_icmp .eq 16, 3) := by decide +kernel
theorem dX9_readSeam_37 : decode cX9_readSeam 37 = .ok (.aload_n 0, 1) := by decide +kernel
theorem dX9_readSeam_38 : decode cX9_readSeam 38 = .ok (.iload_n 1, 1) := by decide +kernel
theorem dX9_readSeam_39 : decode cX9_readSeam 39 = .ok (.invokevirtual 187, 3) := by decide +kernel
theorem dX9_readSeam_42 : decode cX9_readSeam 42 = .ok (.aload_n 0, 1) := by decide +kernel
theorem dX9_readSeam_43 : decode cX9_readSeam 43 = .ok (.invokevirtual 183, 3) := by decide +kernel
theorem dX9_readSeam_46 : decode cX9_readSeam 46 = .ok (.istore_n 1, 1) := by decide +kernel
theorem dX9_readSeam_47 : decode cX9_readSeam 47 = .ok (.goto (-23), 3) := by decide +kernel
theorem dX9_readSeam_50 : decode cX9_readSeam 50 = .ok (.aload_n 0, 1) := by decide +kernel
theorem dX9_readSeam_51 : decode cX9_readSeam 51 = .ok (.invokevirtual 190, 3) := by decide +kernel
theorem dX9_readSeam_54 : decode cX9_readSeam 54 = .ok (.aload_n 0, 1) := by decide +kernel
theorem dX9_readSeam_55 : decode cX9_readSeam 55 = .ok (.dup, 1) := by decide +kernel
theorem dX9_readSeam_56 : decode cX9_readSeam 56 = .ok (.getfield 180, 3) := by decide +kernel
theorem dX9_readSeam_59 : decode cX9_readSeam 59 = .ok (.iconst 1, 1) := by decide +kernel
theorem dX9_readSeam_60 : decode cX9_readSeam 60 = .ok (.iadd, 1) := by decide +kernel
theorem dX9_readSeam_61 : decode cX9_readSeam 61 = .ok (.putfield 180, 3) := by decide +kernel
theorem dX9_readSeam_64 : decode cX9_readSeam 64 = .ok (.return_, 1) := by decide +kernel
theorem dX9_readBefore_0 : decode cX9_readBefore 0 = .ok (.aload_n 0, 1) := by decide +kernel
theorem dX9_readBefore_1 : decode cX9_readBefore 1 = .ok (.getfield 193, 3) := by decide +kernel
theorem dX9_readBefore_4 : decode cX9_readBefore 4 = .ok (.bipush 10, 2) := by decide +kernel
theorem dX9_readBefore_6 : decode cX9_readBefore 6 = .ok (.if_icmp .ne 8, 3) := by decide +kernel
theorem dX9_readBefore_9 : decode cX9_readBefore 9 = .ok (.aload_n 0, 1) := by decide +kernel
theorem dX9_readBefore_10 : decode cX9_readBefore 10 = .ok (.iconst 3, 1) := by decide +kernel
theorem dX9_readBefore_11 : decode cX9_readBefore 11 = .ok (.invokevirtual 135, 3) := by decide +kernel
theorem dX9_readBefore_14 : decode cX9_readBefore 14 = .ok (.aload_n 0, 1) := by decide +kernel
theorem dX9_readBefore_15 : decode cX9_readBefore 15 = .ok (.aload_n 0, 1) := by decide +kernel
theorem dX9_readBefore_16 : decode cX9_readBefore 16 = .ok (.invokevirtual 146, 3) := by decide +kernel
theorem dX9_readBefore_19 : decode cX9_readBefore 19 = .ok (.ldc2_w 196, 3) := by decide +kernel
theorem dX9_readBefore_22 : decode cX9_readBefore 22 = .ok (.lcmp, 1) := by decide +kernel
theorem dX9_readBefore_23 : decode cX9_readBefore 23 = .ok (.ifCond .ne 7, 3) := by decide +kernel
theorem dX9_readBefore_26 : decode cX9_readBefore 26 = .ok (.iconst 1, 1) := by decide +kernel
theorem dX9_readBefore_27 : decode cX9_readBefore 27 = .ok (.goto 4, 3) := by decide +kernel
theorem dX9_readBefore_30 : decode cX9_readBefore 30 = .ok (.iconst 0, 1) := by decide +kernel
theorem dX9_readBefore_31 : decode cX9_readBefore 31 = .ok (.invokevirtual 142, 3) := by decide +kernel
theorem dX9_readBefore_34 : decode cX9_readBefore 34 = .ok (.aload_n 0, 1) := by decide +kernel
theorem dX9_readBefore_35 : decode cX9_readBefore 35 = .ok (.iconst 0, 1) := by decide +kernel
theorem dX9_readBefore_36 : decode cX9_readBefore 36 = .ok (.aload_n 0, 1) := by decide +kernel
theorem dX9_readBefore_37 : decode cX9_readBefore 37 = .ok (.getfield 180, 3) := by decide +kernel
theorem dX9_readBefore_40 : decode cX9_readBefore 40 = .ok (.iconst 1, 1) := by decide +kernel
theorem dX9_readBefore_41 : decode cX9_readBefore 41 = .ok (.isub, 1) := by decide +kernel
theorem dX9_readBefore_42 : decode cX9_readBefore 42 = .ok (.ldc 107, 2) := by decide +kernel
theorem dX9_readBefore_44 : decode cX9_readBefore 44 = .ok (.invokevirtual 173, 3) := by decide +kernel
theorem dX9_readBefore_47 : decode cX9_readBefore 47 = .ok (.istore_n 1, 1) := by decide +kernel
theorem dX9_readBefore_48 : decode cX9_readBefore 48 = .ok (.aload_n 0, 1) := by decide +kernel
theorem dX9_readBefore_49 : decode cX9_readBefore 49 = .ok (.iconst 0, 1) := by decide +kernel
theorem dX9_readBefore_50 : decode cX9_readBefore 50 = .ok (.aload_n 0, 1) := by decide +kernel
theorem dX9_readBefore_51 : decode cX9_readBefore 51 = .ok (.getfield 180, 3) := by decide +kernel
theorem dX9_readBefore_54 : decode cX9_readBefore 54 = .ok (.iconst 1, 1) := by decide +kernel
theorem dX9_readBefore_55 : decode cX9_readBefore 55 = .ok (.isub, 1) := by decide +kernel
theorem dX9_readBefore_56 : decode cX9_readBefore 56 = .ok (.iload_n 1, 1) := by decide +kernel
theorem dX9_readBefore_57 : decode cX9_readBefore 57 = .ok (.invokevirtual 173, 3) := by decide +kernel
theorem dX9_readBefore_60 : decode cX9_readBefore 60 = .ok (.istore_n 2, 1) := by decide +kernel
theorem dX9_readBefore_61 : decode cX9_readBefore 61 = .ok (.aload_n 0, 1) := by decide +kernel
theorem dX9_readBefore_62 : decode cX9_readBefore 62 = .ok (.invokevirtual 190, 3) := by decide +kernel
theorem dX9_readBefore_65 : decode cX9_readBefore 65 = .ok (.aload_n 0, 1) := by decide +kernel
theorem dX9_readBefore_66 : decode cX9_readBefore 66 = .ok (.getfield 129, 3) := by decide +kernel
theorem dX9_readBefore_69 : decode cX9_readBefore 69 = .ok (.ifCond .ne 33, 3) := by decide +kernel
theorem dX9_readBefore_72 : decode cX9_readBefore 72 = .ok (.aload_n 0, 1) := by decide +kernel
theorem dX9_readBefore_73 : decode cX9_readBefore 73 = .ok (.getfield 31, 3) := by decide +kernel
theorem dX9_readBefore_76 : decode cX9_readBefore 76 = .ok (.aload_n 0, 1) := by decide +kernel
theorem dX9_readBefore_77 : decode cX9_readBefore 77 = .ok (.getfield 193, 3) := by decide +kernel
theorem dX9_readBefore_80 : decode cX9_readBefore 80 = .ok (.iload_n 1, 1) := by decide +kernel
theorem dX9_readBefore_81 : decode cX9_readBefore 81 = .ok (.iastore, 1) := by decide +kernel
theorem dX9_readBefore_82 : decode cX9_readBefore 82 = .ok (.aload_n 0, 1) := by decide +kernel
theorem dX9_readBefore_83 : decode cX9_readBefore 83 = .ok (.getfield 34, 3) := by decide +kernel
theorem dX9_readBefore_86 : decode cX9_readBefore 86 = .ok (.aload_n 0, 1) := by decide +kernel
theorem dX9_readBefore_87 : decode cX9_readBefore 87 = .ok (.getfield 193, 3) := by decide +kernel
theorem dX9_readBefore_90 : decode cX9_readBefore 90 = .ok (.iload_n 2, 1) := by decide +kernel
theorem dX9_readBefore_91 : decode cX9_readBefore 91 = .ok (.iastore, 1) := by decide +kernel
theorem dX9_readBefore_92 : decode cX9_readBefore 92 = .ok (.aload_n 0, 1) := by decide +kernel
theorem dX9_readBefore_93 : decode cX9_readBefore 93 = .ok (.dup, 1) := by decide +kernel
theorem dX9_readBefore_94 : decode cX9_readBefore 94 = .ok (.getfield 193, 3) := by decide +kernel
theorem dX9_readBefore_97 : decode cX9_readBefore 97 = .ok (.iconst 1, 1) := by decide +kernel
theorem dX9_readBefore_98 : decode cX9_readBefore 98 = .ok (.iadd, 1) := by decide +kernel
theorem dX9_readBefore_99 : decode cX9_readBefore 99 = .ok (.putfield 193, 3) := by decide +kernel
theorem dX9_readBefore_102 : decode cX9_readBefore 102 = .ok (.return_, 1) := by decide +kernel
theorem dX9_plan_0 : decode cX9_plan 0 = .ok (.aload_n 0, 1) := by decide +kernel
theorem dX9_plan_1 : decode cX9_plan 1 = .ok (.iconst 0, 1) := by decide +kernel
theorem dX9_plan_2 : decode cX9_plan 2 = .ok (.putfield 71, 3) := by decide +kernel
theorem dX9_plan_5 : decode cX9_plan 5 = .ok (.aload_n 0, 1) := by decide +kernel
theorem dX9_plan_6 : decode cX9_plan 6 = .ok (.aload_n 0, 1) := by decide +kernel
theorem dX9_plan_7 : decode cX9_plan 7 = .ok (.getfield 98, 3) := by decide +kernel
theorem dX9_plan_10 : decode cX9_plan 10 = .ok (.putfield 104, 3) := by decide +kernel
theorem dX9_plan_13 : decode cX9_plan 13 = .ok (.aload_n 0, 1) := by decide +kernel
theorem dX9_plan_14 : decode cX9_plan 14 = .ok (.iconst 0, 1) := by decide +kernel
theorem dX9_plan_15 : decode cX9_plan 15 = .ok (.putfield 98, 3) := by decide +kernel
theorem dX9_plan_18 : decode cX9_plan 18 = .ok (.aload_n 0, 1) := by decide +kernel
theorem dX9_plan_19 : decode cX9_plan 19 = .ok (.iconst 0, 1) := by decide +kernel
theorem dX9_plan_20 : decode cX9_plan 20 = .ok (.putfield 108, 3) := by decide +kernel
theorem dX9_plan_23 : decode cX9_plan 23 = .ok (.aload_n 0, 1) := by decide +kernel
theorem dX9_plan_24 : decode cX9_plan 24 = .ok (.iconst 0, 1) := by decide +kernel
theorem dX9_plan_25 : decode cX9_plan 25 = .ok (.putfield 129, 3) := by decide +kernel
theorem dX9_plan_28 : decode cX9_plan 28 = .ok (.aload_n 0, 1) := by decide +kernel
theorem dX9_plan_29 : decode cX9_plan 29 = .ok (.iconst 0, 1) := by decide +kernel
theorem dX9_plan_30 : decode cX9_plan 30 = .ok (.putfield 180, 3) := by decide +kernel
theorem dX9_plan_33 : decode cX9_plan 33 = .ok (.aload_n 0, 1) := by decide +kernel
theorem dX9_plan_34 : decode cX9_plan 34 = .ok (.iconst 0, 1) := by decide +kernel
theorem dX9_plan_35 : decode cX9_plan 35 = .ok (.putfield 170, 3) := by decide +kernel
theorem dX9_plan_38 : decode cX9_plan 38 = .ok (.aload_n 0, 1) := by decide +kernel
theorem dX9_plan_39 : decode cX9_plan 39 = .ok (.iconst 0, 1) := by decide +kernel
theorem dX9_plan_40 : decode cX9_plan 40 = .ok (.putfield 193, 3) := by decide +kernel
theorem dX9_plan_43 : decode cX9_plan 43 = .ok (.aload_n 0, 1) := by decide +kernel
theorem dX9_plan_44 : decode cX9_plan 44 = .ok (.invokevirtual 139, 3) := by decide +kernel
theorem dX9_plan_47 : decode cX9_plan 47 = .ok (.aload_n 0, 1) := by decide +kernel
theorem dX9_plan_48 : decode cX9_plan 48 = .ok (.aload_n 0, 1) := by decide +kernel
theorem dX9_plan_49 : decode cX9_plan 49 = .ok (.invokevirtual 146, 3) := by decide +kernel
theorem dX9_plan_52 : decode cX9_plan 52 = .ok (.ldc2_w 198, 3) := by decide +kernel
theorem dX9_plan_55 : decode cX9_plan 55 = .ok (.lcmp, 1) := by decide +kernel
theorem dX9_plan_56 : decode cX9_plan 56 = .ok (.ifCond .ne 7, 3) := by decide +kernel
theorem dX9_plan_59 : decode cX9_plan 59 = .ok (.iconst 1, 1) := by decide +kernel
theorem dX9_plan_60 : decode cX9_plan 60 = .ok (.goto 4, 3) := by decide +kernel
theorem dX9_plan_63 : decode cX9_plan 63 = .ok (.iconst 0, 1) := by decide +kernel
theorem dX9_plan_64 : decode cX9_plan 64 = .ok (.invokevirtual 142, 3) := by decide +kernel
theorem dX9_plan_67 : decode cX9_plan 67 = .ok (.aload_n 0, 1) := by decide +kernel
theorem dX9_plan_68 : decode cX9_plan 68 = .ok (.aload_n 0, 1) := by decide +kernel
theorem dX9_plan_69 : decode cX9_plan 69 = .ok (.iconst 4, 1) := by decide +kernel
theorem dX9_plan_70 : decode cX9_plan 70 = .ok (.bipush 12, 2) := by decide +kernel
theorem dX9_plan_72 : decode cX9_plan 72 = .ok (.ldc 107, 2) := by decide +kernel
theorem dX9_plan_74 : decode cX9_plan 74 = .ok (.invokevirtual 173, 3) := by decide +kernel
theorem dX9_plan_77 : decode cX9_plan 77 = .ok (.putfield 177, 3) := by decide +kernel
theorem dX9_plan_80 : decode cX9_plan 80 = .ok (.aload_n 0, 1) := by decide +kernel
theorem dX9_plan_81 : decode cX9_plan 81 = .ok (.invokevirtual 190, 3) := by decide +kernel
theorem dX9_plan_84 : decode cX9_plan 84 = .ok (.aload_n 0, 1) := by decide +kernel
theorem dX9_plan_85 : decode cX9_plan 85 = .ok (.invokevirtual 146, 3) := by decide +kernel
theorem dX9_plan_88 : decode cX9_plan 88 = .ok (.ldc2_w 200, 3) := by decide +kernel
theorem dX9_plan_91 : decode cX9_plan 91 = .ok (.lcmp, 1) := by decide +kernel
theorem dX9_plan_92 : decode cX9_plan 92 = .ok (.ifCond .ne 10, 3) := by decide +kernel
theorem dX9_plan_95 : decode cX9_plan 95 = .ok (.aload_n 0, 1) := by decide +kernel
theorem dX9_plan_96 : decode cX9_plan 96 = .ok (.invokevirtual 202, 3) := by decide +kernel
theorem dX9_plan_99 : decode cX9_plan 99 = .ok (.goto (-15), 3) := by decide +kernel
theorem dX9_plan_102 : decode cX9_plan 102 = .ok (.aload_n 0, 1) := by decide +kernel
theorem dX9_plan_103 : decode cX9_plan 103 = .ok (.getfield 129, 3) := by decide +kernel
theorem dX9_plan_106 : decode cX9_plan 106 = .ok (.ifCond .ne 37, 3) := by decide +kernel
theorem dX9_plan_109 : decode cX9_plan 109 = .ok (.aload_n 0, 1) := by decide +kernel
theorem dX9_plan_110 : decode cX9_plan 110 = .ok (.getfield 117, 3) := by decide +kernel
theorem dX9_plan_113 : decode cX9_plan 113 = .ok (.iconst 1, 1) := by decide +kernel
theorem dX9_plan_114 : decode cX9_plan 114 = .ok (.if_icmp .eq 29, 3) := by decide +kernel
theorem dX9_plan_117 : decode cX9_plan 117 = .ok (.aload_n 0, 1) := by decide +kernel
theorem dX9_plan_118 : decode cX9_plan 118 = .ok (.invokevirtual 146, 3) := by decide +kernel
theorem dX9_plan_121 : decode cX9_plan 121 = .ok (.ldc2_w 196, 3) := by decide +kernel
theorem dX9_plan_124 : decode cX9_plan 124 = .ok (.lcmp, 1) := by decide +kernel
theorem dX9_plan_125 : decode cX9_plan 125 = .ok (.ifCond .eq 11, 3) := by decide +kernel
theorem dX9_plan_128 : decode cX9_plan 128 = .ok (.aload_n 0, 1) := by decide +kernel
theorem dX9_plan_129 : decode cX9_plan 129 = .ok (.iconst 1, 1) := by decide +kernel
theorem dX9_plan_130 : decode cX9_plan 130 = .ok (.invokevirtual 135, 3) := by decide +kernel
theorem dX9_plan_133 : decode cX9_plan 133 = .ok (.goto (-31), 3) := by decide +kernel
theorem dX9_plan_136 : decode cX9_plan 136 = .ok (.aload_n 0, 1) := by decide +kernel
theorem dX9_plan_137 : decode cX9_plan 137 = .ok (.invokevirtual 205, 3) := by decide +kernel
theorem dX9_plan_140 : decode cX9_plan 140 = .ok (.goto (-38), 3) := by decide +kernel
theorem dX9_plan_143 : decode cX9_plan 143 = .ok (.aload_n 0, 1) := by decide +kernel
theorem dX9_plan_144 : decode cX9_plan 144 = .ok (.getfield 129, 3) := by decide +kernel
theorem dX9_plan_147 : decode cX9_plan 147 = .ok (.ifCond .le 19, 3) := by decide +kernel
theorem dX9_plan_150 : decode cX9_plan 150 = .ok (.aload_n 0, 1) := by decide +kernel
theorem dX9_plan_151 : decode cX9_plan 151 = .ok (.aload_n 0, 1) := by decide +kernel
theorem dX9_plan_152 : decode cX9_plan 152 = .ok (.getfield 129, 3) := by decide +kernel
theorem dX9_plan_155 : decode cX9_plan 155 = .ok (.putfield 208, 3) := by decide +kernel
theorem dX9_plan_158 : decode cX9_plan 158 = .ok (.ldc 211, 2) := by decide +kernel
theorem dX9_plan_160 : decode cX9_plan 160 = .ok (.aload_n 0, 1) := by decide +kernel
theorem dX9_plan_161 : decode cX9_plan 161 = .ok (.getfield 132, 3) := by decide +kernel
theorem dX9_plan_164 : decode cX9_plan 164 = .ok (.isub, 1) := by decide +kernel
theorem dX9_plan_165 : decode cX9_plan 165 = .ok (.ireturn, 1) := by decide +kernel
theorem dX9_plan_166 : decode cX9_plan 166 = .ok (.aload_n 0, 1) := by decide +kernel
theorem dX9_plan_167 : decode cX9_plan 167 = .ok (.aload_n 0, 1) := by decide +kernel
theorem dX9_plan_168 : decode cX9_plan 168 = .ok (.getfield 177, 3) := by decide +kernel
theorem dX9_plan_171 : decode cX9_plan 171 = .ok (.putfield 212, 3) := by decide +kernel
theorem dX9_plan_174 : decode cX9_plan 174 = .ok (.aload_n 0, 1) := by decide +kernel
theorem dX9_plan_175 : decode cX9_plan 175 = .ok (.aload_n 0, 1) := by decide +kernel
theorem dX9_plan_176 : decode cX9_plan 176 = .ok (.getfield 180, 3) := by decide +kernel
theorem dX9_plan_179 : decode cX9_plan 179 = .ok (.putfield 215, 3) := by decide +kernel
theorem dX9_plan_182 : decode cX9_plan 182 = .ok (.aload_n 0, 1) := by decide +kernel
theorem dX9_plan_183 : decode cX9_plan 183 = .ok (.aload_n 0, 1) := by decide +kernel
theorem dX9_plan_184 : decode cX9_plan 184 = .ok (.getfield 170, 3) := by decide +kernel
theorem dX9_plan_187 : decode cX9_plan 187 = .ok (.putfield 218, 3) := by decide +kernel
theorem dX9_plan_190 : decode cX9_plan 190 = .ok (.aload_n 0, 1) := by decide +kernel
theorem dX9_plan_191 : decode cX9_plan 191 = .ok (.aload_n 0, 1) := by decide +kernel
theorem dX9_plan_192 : decode cX9_plan 192 = .ok (.getfield 193, 3) := by decide +kernel
theorem dX9_plan_195 : decode cX9_plan 195 = .ok (.putfield 221, 3) := by decide +kernel
theorem dX9_plan_198 : decode cX9_plan 198 = .ok (.iconst 0, 1) := by decide +kernel
theorem dX9_plan_199 : decode cX9_plan 199 = .ok (.istore_n 1, 1) := by decide +kernel
theorem dX9_plan_200 : decode cX9_plan 200 = .ok (.iload_n 1, 1) := by decide +kernel
theorem dX9_plan_201 : decode cX9_plan 201 = .ok (.sipush 160, 3) := by decide +kernel
theorem dX9_plan_204 : decode cX9_plan 204 = .ok (.if_icmp .ge 21, 3) := by decide +kernel
theorem dX9_plan_207 : decode cX9_plan 207 = .ok (.aload_n 0, 1) := by decide +kernel
theorem dX9_plan_208 : decode cX9_plan 208 = .ok (.getfield 19, 3) := by decide +kernel
theorem dX9_plan_211 : decode cX9_plan 211 = .ok (.iload_n 1, 1) := by decide +kernel
theorem dX9_plan_212 : decode cX9_plan 212 = .ok (.aload_n 0, 1) := by decide +kernel
theorem dX9_plan_213 : decode cX9_plan 213 = .ok (.getfield 28, 3) := by decide +kernel
theorem dX9_plan_216 : decode cX9_plan 216 = .ok (.iload_n 1, 1) := by decide +kernel
theorem dX9_plan_217 : decode cX9_plan 217 = .ok (.iaload, 1) := by decide +kernel
theorem dX9_plan_218 : decode cX9_plan 218 = .ok (.iastore, 1) := by decide +kernel
theorem dX9_plan_219 : decode cX9_plan 219 = .ok (.iinc 1 1, 3) := by decide +kernel
theorem dX9_plan_222 : decode cX9_plan 222 = .ok (.goto (-22), 3) := by decide +kernel
theorem dX9_plan_225 : decode cX9_plan 225 = .ok (.iconst 0, 1) := by decide +kernel
theorem dX9_plan_226 : decode cX9_plan 226 = .ok (.istore_n 1, 1) := by decide +kernel
theorem dX9_plan_227 : decode cX9_plan 227 = .ok (.iload_n 1, 1) := by decide +kernel
theorem dX9_plan_228 : decode cX9_plan 228 = .ok (.bipush 10, 2) := by decide +kernel
theorem dX9_plan_230 : decode cX9_plan 230 = .ok (.if_icmp .ge 33, 3) := by decide +kernel
theorem dX9_plan_233 : decode cX9_plan 233 = .ok (.aload_n 0, 1) := by decide +kernel
theorem dX9_plan_234 : decode cX9_plan 234 = .ok (.getfield 22, 3) := by decide +kernel
theorem dX9_plan_237 : decode cX9_plan 237 = .ok (.iload_n 1, 1) := by decide +kernel
theorem dX9_plan_238 : decode cX9_plan 238 = .ok (.aload_n 0, 1) := by decide +kernel
theorem dX9_plan_239 : decode cX9_plan 239 = .ok (.getfield 31, 3) := by decide +kernel
theorem dX9_plan_242 : decode cX9_plan 242 = .ok (.iload_n 1, 1) := by decide +kernel
theorem dX9_plan_243 : decode cX9_plan 243 = .ok (.iaload, 1) := by decide +kernel
theorem dX9_plan_244 : decode cX9_plan 244 = .ok (.iastore, 1) := by decide +kernel
theorem dX9_plan_245 : decode cX9_plan 245 = .ok (.aload_n 0, 1) := by decide +kernel
theorem dX9_plan_246 : decode cX9_plan 246 = .ok (.getfield 25, 3) := by decide +kernel
theorem dX9_plan_249 : decode cX9_plan 249 = .ok (.iload_n 1, 1) := by decide +kernel
theorem dX9_plan_250 : decode cX9_plan 250 = .ok (.aload_n 0, 1) := by decide +kernel
theorem dX9_plan_251 : decode cX9_plan 251 = .ok (.getfield 34, 3) := by decide +kernel
theorem dX9_plan_254 : decode cX9_plan 254 = .ok (.iload_n 1, 1) := by decide +kernel
theorem dX9_plan_255 : decode cX9_plan 255 = .ok (.iaload, 1) := by decide +kernel
theorem dX9_plan_256 : decode cX9_plan 256 = .ok (.iastore, 1) := by decide +kernel
theorem dX9_plan_257 : decode cX9_plan 257 = .ok (.iinc 1 1, 3) := by decide +kernel
theorem dX9_plan_260 : decode cX9_plan 260 = .ok (.goto (-33), 3) := by decide +kernel
theorem dX9_plan_263 : decode cX9_plan 263 = .ok (.iconst 0, 1) := by decide +kernel
theorem dX9_plan_264 : decode cX9_plan 264 = .ok (.istore_n 1, 1) := by decide +kernel
theorem dX9_plan_265 : decode cX9_plan 265 = .ok (.iload_n 1, 1) := by decide +kernel
theorem dX9_plan_266 : decode cX9_plan 266 = .ok (.bipush 12, 2) := by decide +kernel
theorem dX9_plan_268 : decode cX9_plan 268 = .ok (.if_icmp .ge 16, 3) := by decide +kernel
theorem dX9_plan_271 : decode cX9_plan 271 = .ok (.aload_n 0, 1) := by decide +kernel
theorem dX9_plan_272 : decode cX9_plan 272 = .ok (.getfield 40, 3) := by decide +kernel
theorem dX9_plan_275 : decode cX9_plan 275 = .ok (.iload_n 1, 1) := by decide +kernel
theorem dX9_plan_276 : decode cX9_plan 276 = .ok (.iconst 0, 1) := by decide +kernel
theorem dX9_plan_277 : decode cX9_plan 277 = .ok (.iastore, 1) := by decide +kernel
theorem dX9_plan_278 : decode cX9_plan 278 = .ok (.iinc 1 1, 3) := by decide +kernel
theorem dX9_plan_281 : decode cX9_plan 281 = .ok (.goto (-16), 3) := by decide +kernel
theorem dX9_plan_284 : decode cX9_plan 284 = .ok (.aload_n 0, 1) := by decide +kernel
theorem dX9_plan_285 : decode cX9_plan 285 = .ok (.iconst 0, 1) := by decide +kernel
theorem dX9_plan_286 : decode cX9_plan 286 = .ok (.putfield 224, 3) := by decide +kernel
theorem dX9_plan_289 : decode cX9_plan 289 = .ok (.iconst 0, 1) := by decide +kernel
theorem dX9_plan_290 : decode cX9_plan 290 = .ok (.istore_n 1, 1) := by decide +kernel
theorem dX9_plan_291 : decode cX9_plan 291 = .ok (.iload_n 1, 1) := by decide +kernel
theorem dX9_plan_292 : decode cX9_plan 292 = .ok (.bipush 6, 2) := by decide +kernel
theorem dX9_plan_294 : decode cX9_plan 294 = .ok (.if_icmp .ge 16, 3) := by decide +kernel
theorem dX9_plan_297 : decode cX9_plan 297 = .ok (.aload_n 0, 1) := by decide +kernel
theorem dX9_plan_298 : decode cX9_plan 298 = .ok (.getfield 43, 3) := by decide +kernel
theorem dX9_plan_301 : decode cX9_plan 301 = .ok (.iload_n 1, 1) := by decide +kernel
theorem dX9_plan_302 : decode cX9_plan 302 = .ok (.iload_n 1, 1) := by decide +kernel
theorem dX9_plan_303 : decode cX9_plan 303 = .ok (.iastore, 1) := by decide +kernel
theorem dX9_plan_304 : decode cX9_plan 304 = .ok (.iinc 1 1, 3) := by decide +kernel
theorem dX9_plan_307 : decode cX9_plan 307 = .ok (.goto (-16), 3) := by decide +kernel
theorem dX9_plan_310 : decode cX9_plan 310 = .ok (.aload_n 0, 1) := by decide +kernel
theorem dX9_plan_311 : decode cX9_plan 311 = .ok (.getfield 218, 3) := by decide +kernel
theorem dX9_plan_314 : decode cX9_plan 314 = .ok (.ireturn, 1) := by decide +kernel
theorem dX9_fault_0 : decode cX9_fault 0 = .ok (.aload_n 0, 1) := by decide +kernel
theorem dX9_fault_1 : decode cX9_fault 1 = .ok (.iconst 0, 1) := by decide +kernel
theorem dX9_fault_2 : decode cX9_fault 2 = .ok (.putfield 71, 3) := by decide +kernel
theorem dX9_fault_5 : decode cX9_fault 5 = .ok (.aload_n 0, 1) := by decide +kernel
theorem dX9_fault_6 : decode cX9_fault 6 = .ok (.getfield 208, 3) := by decide +kernel
theorem dX9_fault_9 : decode cX9_fault 9 = .ok (.ireturn, 1) := by decide +kernel
theorem dX9_isAct_0 : decode cX9_isAct 0 = .ok (.iload_n 1, 1) := by decide +kernel
theorem dX9_isAct_1 : decode cX9_isAct 1 = .ok (.i2l, 1) := by decide +kernel
theorem dX9_isAct_2 : decode cX9_isAct 2 = .ok (.lconst 0, 1) := by decide +kernel
theorem dX9_isAct_3 : decode cX9_isAct 3 = .ok (.aload_n 0, 1) := by decide +kernel
theorem dX9_isAct_4 : decode cX9_isAct 4 = .ok (.getfield 218, 3) := by decide +kernel
theorem dX9_isAct_7 : decode cX9_isAct 7 = .ok (.iconst 1, 1) := by decide +kernel
theorem dX9_isAct_8 : decode cX9_isAct 8 = .ok (.isub, 1) := by decide +kernel
theorem dX9_isAct_9 : decode cX9_isAct 9 = .ok (.i2l, 1) := by decide +kernel
theorem dX9_isAct_10 : decode cX9_isAct 10 = .ok (.invokestatic 81, 3) := by decide +kernel
theorem dX9_isAct_13 : decode cX9_isAct 13 = .ok (.ireturn, 1) := by decide +kernel
theorem dX9_isCell_0 : decode cX9_isCell 0 = .ok (.iload_n 1, 1) := by decide +kernel
theorem dX9_isCell_1 : decode cX9_isCell 1 = .ok (.i2l, 1) := by decide +kernel
theorem dX9_isCell_2 : decode cX9_isCell 2 = .ok (.lconst 0, 1) := by decide +kernel
theorem dX9_isCell_3 : decode cX9_isCell 3 = .ok (.aload_n 0, 1) := by decide +kernel
theorem dX9_isCell_4 : decode cX9_isCell 4 = .ok (.getfield 212, 3) := by decide +kernel
theorem dX9_isCell_7 : decode cX9_isCell 7 = .ok (.iconst 1, 1) := by decide +kernel
theorem dX9_isCell_8 : decode cX9_isCell 8 = .ok (.isub, 1) := by decide +kernel
theorem dX9_isCell_9 : decode cX9_isCell 9 = .ok (.i2l, 1) := by decide +kernel
theorem dX9_isCell_10 : decode cX9_isCell 10 = .ok (.invokestatic 81, 3) := by decide +kernel
theorem dX9_isCell_13 : decode cX9_isCell 13 = .ok (.ireturn, 1) := by decide +kernel
theorem dX9_act_0 : decode cX9_act 0 = .ok (.aload_n 0, 1) := by decide +kernel
theorem dX9_act_1 : decode cX9_act 1 = .ok (.iconst 0, 1) := by decide +kernel
theorem dX9_act_2 : decode cX9_act 2 = .ok (.putfield 71, 3) := by decide +kernel
theorem dX9_act_5 : decode cX9_act 5 = .ok (.aload_n 0, 1) := by decide +kernel
theorem dX9_act_6 : decode cX9_act 6 = .ok (.iload_n 1, 1) := by decide +kernel
theorem dX9_act_7 : decode cX9_act 7 = .ok (.invokevirtual 228, 3) := by decide +kernel
theorem dX9_act_10 : decode cX9_act 10 = .ok (.ifCond .eq 15, 3) := by decide +kernel
theorem dX9_act_13 : decode cX9_act 13 = .ok (.iload_n 2, 1) := by decide +kernel
theorem dX9_act_14 : decode cX9_act 14 = .ok (.i2l, 1) := by decide +kernel
theorem dX9_act_15 : decode cX9_act 15 = .ok (.lconst 0, 1) := by decide +kernel
theorem dX9_act_16 : decode cX9_act 16 = .ok (.ldc2_w 231, 3) := by decide +kernel
theorem dX9_act_19 : decode cX9_act 19 = .ok (.invokestatic 81, 3) := by decide +kernel
theorem dX9_act_22 : decode cX9_act 22 = .ok (.ifCond .ne 8, 3) := by decide +kernel
theorem dX9_act_25 : decode cX9_act 25 = .ok (.ldc 91, 2) := by decide +kernel
theorem dX9_act_27 : decode cX9_act 27 = .ok (.goto 23, 3) := by decide +kernel
theorem dX9_act_30 : decode cX9_act 30 = .ok (.aload_n 0, 1) := by decide +kernel
theorem dX9_act_31 : decode cX9_act 31 = .ok (.getfield 19, 3) := by decide +kernel
theorem dX9_act_34 : decode cX9_act 34 = .ok (.iconst 4, 1) := by decide +kernel
theorem dX9_act_35 : decode cX9_act 35 = .ok (.iload_n 1, 1) := by decide +kernel
theorem dX9_act_36 : decode cX9_act 36 = .ok (.imul, 1) := by decide +kernel
theorem dX9_act_37 : decode cX9_act 37 = .ok (.iload_n 2, 1) := by decide +kernel
theorem dX9_act_38 : decode cX9_act 38 = .ok (.iadd, 1) := by decide +kernel
theorem dX9_act_39 : decode cX9_act 39 = .ok (.iaload, 1) := by decide +kernel
theorem dX9_act_40 : decode cX9_act 40 = .ok (.iload_n 2, 1) := by decide +kernel
theorem dX9_act_41 : decode cX9_act 41 = .ok (.ifCond .ne 7, 3) := by decide +kernel
theorem dX9_act_44 : decode cX9_act 44 = .ok (.iconst 1, 1) := by decide +kernel
theorem dX9_act_45 : decode cX9_act 45 = .ok (.goto 4, 3) := by decide +kernel
theorem dX9_act_48 : decode cX9_act 48 = .ok (.iconst 0, 1) := by decide +kernel
theorem dX9_act_49 : decode cX9_act 49 = .ok (.isub, 1) := by decide +kernel
theorem dX9_act_50 : decode cX9_act 50 = .ok (.ireturn, 1) := by decide +kernel
theorem dX9_open_0 : decode cX9_open 0 = .ok (.aload_n 0, 1) := by decide +kernel
theorem dX9_open_1 : decode cX9_open 1 = .ok (.iconst 0, 1) := by decide +kernel
theorem dX9_open_2 : decode cX9_open 2 = .ok (.putfield 71, 3) := by decide +kernel
theorem dX9_open_5 : decode cX9_open 5 = .ok (.aload_n 0, 1) := by decide +kernel
theorem dX9_open_6 : decode cX9_open 6 = .ok (.iload_n 1, 1) := by decide +kernel
theorem dX9_open_7 : decode cX9_open 7 = .ok (.invokevirtual 233, 3) := by decide +kernel
theorem dX9_open_10 : decode cX9_open 10 = .ok (.ifCond .eq 17, 3) := by decide +kernel
theorem dX9_open_13 : decode cX9_open 13 = .ok (.iload_n 2, 1) := by decide +kernel
theorem dX9_open_14 : decode cX9_open 14 = .ok (.i2l, 1) := by decide +kernel
theorem dX9_open_15 : decode cX9_open 15 = .ok (.ldc2_w 236, 3) := by decide +kernel
theorem dX9_open_18 : decode cX9_open 18 = .ok (.ldc2_w 238, 3) := by decide +kernel
theorem dX9_open_21 : decode cX9_open 21 = .ok (.invokestatic 81, 3) := by decide +kernel
theorem dX9_open_24 : decode cX9_open 24 = .ok (.ifCond .ne 6, 3) := by decide +kernel
theorem dX9_open_27 : decode cX9_open 27 = .ok (.ldc 91, 2) := by decide +kernel
theorem dX9_open_29 : decode cX9_open 29 = .ok (.ireturn, 1) := by decide +kernel
theorem dX9_open_30 : decode cX9_open 30 = .ok (.aload_n 0, 1) := by decide +kernel
theorem dX9_open_31 : decode cX9_open 31 = .ok (.getfield 40, 3) := by decide +kernel
theorem dX9_open_34 : decode cX9_open 34 = .ok (.iload_n 1, 1) := by decide +kernel
theorem dX9_open_35 : decode cX9_open 35 = .ok (.iaload, 1) := by decide +kernel
theorem dX9_open_36 : decode cX9_open 36 = .ok (.istore_n 3, 1) := by decide +kernel
theorem dX9_open_37 : decode cX9_open 37 = .ok (.aload_n 0, 1) := by decide +kernel
theorem dX9_open_38 : decode cX9_open 38 = .ok (.getfield 40, 3) := by decide +kernel
theorem dX9_open_41 : decode cX9_open 41 = .ok (.iload_n 1, 1) := by decide +kernel
theorem dX9_open_42 : decode cX9_open 42 = .ok (.iload_n 2, 1) := by decide +kernel
theorem dX9_open_43 : decode cX9_open 43 = .ok (.iastore, 1) := by decide +kernel
theorem dX9_open_44 : decode cX9_open 44 = .ok (.iload_n 3, 1) := by decide +kernel
theorem dX9_open_45 : decode cX9_open 45 = .ok (.ireturn, 1) := by decide +kernel
theorem dX9_minute_0 : decode cX9_minute 0 = .ok (.iconst 0, 1) := by decide +kernel
theorem dX9_minute_1 : decode cX9_minute 1 = .ok (.istore_n 1, 1) := by decide +kernel
theorem dX9_minute_2 : decode cX9_minute 2 = .ok (.iload_n 1, 1) := by decide +kernel
theorem dX9_minute_3 : decode cX9_minute 3 = .ok (.aload_n 0, 1) := by decide +kernel
theorem dX9_minute_4 : decode cX9_minute 4 = .ok (.getfield 212, 3) := by decide +kernel
theorem dX9_minute_7 : decode cX9_minute 7 = .ok (.if_icmp .ge 29, 3) := by decide +kernel
theorem dX9_minute_10 : decode cX9_minute 10 = .ok (.aload_n 0, 1) := by decide +kernel
theorem dX9_minute_11 : decode cX9_minute 11 = .ok (.getfield 46, 3) := by decide +kernel
theorem dX9_minute_14 : decode cX9_minute 14 = .ok (.iconst 0, 1) := by decide +kernel
theorem dX9_minute_15 : decode cX9_minute 15 = .ok (.iload_n 1, 1) := by decide +kernel
theorem dX9_minute_16 : decode cX9_minute 16 = .ok (.iadd, 1) := by decide +kernel
theorem dX9_minute_17 : decode cX9_minute 17 = .ok (.iconst 3, 1) := by decide +kernel
theorem dX9_minute_18 : decode cX9_minute 18 = .ok (.aload_n 0, 1) := by decide +kernel
theorem dX9_minute_19 : decode cX9_minute 19 = .ok (.getfield 46, 3) := by decide +kernel
theorem dX9_minute_22 : decode cX9_minute 22 = .ok (.iconst 0, 1) := by decide +kernel
theorem dX9_minute_23 : decode cX9_minute 23 = .ok (.iload_n 1, 1) := by decide +kernel
theorem dX9_minute_24 : decode cX9_minute 24 = .ok (.iadd, 1) := by decide +kernel
theorem dX9_minute_25 : decode cX9_minute 25 = .ok (.iaload, 1) := by decide +kernel
theorem dX9_minute_26 : decode cX9_minute 26 = .ok (.imul, 1) := by decide +kernel
theorem dX9_minute_27 : decode cX9_minute 27 = .ok (.iconst 4, 1) := by decide +kernel
theorem dX9_minute_28 : decode cX9_minute 28 = .ok (.idiv, 1) := by decide +kernel
theorem dX9_minute_29 : decode cX9_minute 29 = .ok (.iastore, 1) := by decide +kernel
theorem dX9_minute_30 : decode cX9_minute 30 = .ok (.iinc 1 1, 3) := by decide +kernel
theorem dX9_minute_33 : decode cX9_minute 33 = .ok (.goto (-31), 3) := by decide +kernel
theorem dX9_minute_36 : decode cX9_minute 36 = .ok (.aload_n 0, 1) := by decide +kernel
theorem dX9_minute_37 : decode cX9_minute 37 = .ok (.dup, 1) := by decide +kernel
theorem dX9_minute_38 : decode cX9_minute 38 = .ok (.getfield 240, 3) := by decide +kernel
theorem dX9_minute_41 : decode cX9_minute 41 = .ok (.iconst 1, 1) := by decide +kernel
theorem dX9_minute_42 : decode cX9_minute 42 = .ok (.iadd, 1) := by decide +kernel
theorem dX9_minute_43 : decode cX9_minute 43 = .ok (.putfield 240, 3) := by decide +kernel
theorem dX9_minute_46 : decode cX9_minute 46 = .ok (.return_, 1) := by decide +kernel
theorem dX9_holds_0 : decode cX9_holds 0 = .ok (.aload_n 0, 1) := by decide +kernel
theorem dX9_holds_1 : decode cX9_holds 1 = .ok (.iload_n 1, 1) := by decide +kernel
theorem dX9_holds_2 : decode cX9_holds 2 = .ok (.invokevirtual 233, 3) := by decide +kernel
theorem dX9_holds_5 : decode cX9_holds 5 = .ok (.ifCond .eq 19, 3) := by decide +kernel
theorem dX9_holds_8 : decode cX9_holds 8 = .ok (.aload_n 0, 1) := by decide +kernel
theorem dX9_holds_9 : decode cX9_holds 9 = .ok (.getfield 46, 3) := by decide +kernel
theorem dX9_holds_12 : decode cX9_holds 12 = .ok (.bipush 12, 2) := by decide +kernel
theorem dX9_holds_14 : decode cX9_holds 14 = .ok (.iload_n 1, 1) := by decide +kernel
theorem dX9_holds_15 : decode cX9_holds 15 = .ok (.iadd, 1) := by decide +kernel
theorem dX9_holds_16 : decode cX9_holds 16 = .ok (.iaload, 1) := by decide +kernel
theorem dX9_holds_17 : decode cX9_holds 17 = .ok (.ifCond .le 7, 3) := by decide +kernel
theorem dX9_holds_20 : decode cX9_holds 20 = .ok (.iconst 1, 1) := by decide +kernel
theorem dX9_holds_21 : decode cX9_holds 21 = .ok (.goto 4, 3) := by decide +kernel
theorem dX9_holds_24 : decode cX9_holds 24 = .ok (.iconst 0, 1) := by decide +kernel
theorem dX9_holds_25 : decode cX9_holds 25 = .ok (.ireturn, 1) := by decide +kernel
theorem dX9_shrinks_0 : decode cX9_shrinks 0 = .ok (.iload_n 3, 1) := by decide +kernel
theorem dX9_shrinks_1 : decode cX9_shrinks 1 = .ok (.aload_n 0, 1) := by decide +kernel
theorem dX9_shrinks_2 : decode cX9_shrinks 2 = .ok (.iload_n 2, 1) := by decide +kernel
theorem dX9_shrinks_3 : decode cX9_shrinks 3 = .ok (.iconst 1, 1) := by decide +kernel
theorem dX9_shrinks_4 : decode cX9_shrinks 4 = .ok (.iadd, 1) := by decide +kernel
theorem dX9_shrinks_5 : decode cX9_shrinks 5 = .ok (.invokevirtual 243, 3) := by decide +kernel
theorem dX9_shrinks_8 : decode cX9_shrinks 8 = .ok (.ifCond .eq 7, 3) := by decide +kernel
theorem dX9_shrinks_11 : decode cX9_shrinks 11 = .ok (.iconst 1, 1) := by decide +kernel
theorem dX9_shrinks_12 : decode cX9_shrinks 12 = .ok (.goto 4, 3) := by decide +kernel
theorem dX9_shrinks_15 : decode cX9_shrinks 15 = .ok (.iconst 0, 1) := by decide +kernel
theorem dX9_shrinks_16 : decode cX9_shrinks 16 = .ok (.isub, 1) := by decide +kernel
theorem dX9_shrinks_17 : decode cX9_shrinks 17 = .ok (.istore 4, 2) := by decide +kernel
theorem dX9_shrinks_19 : decode cX9_shrinks 19 = .ok (.iload_n 1, 1) := by decide +kernel
theorem dX9_shrinks_20 : decode cX9_shrinks 20 = .ok (.tableswitch 116 1 7 #[44, 116, 46, 49, 78, 94, 97], 44) := by decide +kernel
theorem dX9_shrinks_64 : decode cX9_shrinks 64 = .ok (.iconst 1, 1) := by decide +kernel
theorem dX9_shrinks_65 : decode cX9_shrinks 65 = .ok (.ireturn, 1) := by decide +kernel
theorem dX9_shrinks_66 : decode cX9_shrinks 66 = .ok (.iload 4, 2) := by decide +kernel
theorem dX9_shrinks_68 : decode cX9_shrinks 68 = .ok (.ireturn, 1) := by decide +kernel
theorem dX9_shrinks_69 : decode cX9_shrinks 69 = .ok (.iload 4, 2) := by decide +kernel
theorem dX9_shrinks_71 : decode cX9_shrinks 71 = .ok (.aload_n 0, 1) := by decide +kernel
theorem dX9_shrinks_72 : decode cX9_shrinks 72 = .ok (.iload_n 2, 1) := by decide +kernel
theorem dX9_shrinks_73 : decode cX9_shrinks 73 = .ok (.iconst 1, 1) := by decide +kernel
theorem dX9_shrinks_74 : decode cX9_shrinks 74 = .ok (.isub, 1) := by decide +kernel
theorem dX9_shrinks_75 : decode cX9_shrinks 75 = .ok (.invokevirtual 243, 3) := by decide +kernel
theorem dX9_shrinks_78 : decode cX9_shrinks 78 = .ok (.ifCond .ne 13, 3) := by decide +kernel
theorem dX9_shrinks_81 : decode cX9_shrinks 81 = .ok (.aload_n 0, 1) := by decide +kernel
theorem dX9_shrinks_82 : decode cX9_shrinks 82 = .ok (.iload_n 2, 1) := by decide +kernel
theorem dX9_shrinks_83 : decode cX9_shrinks 83 = .ok (.iconst 1, 1) := by decide +kernel
theorem dX9_shrinks_84 : decode cX9_shrinks 84 = .ok (.iadd, 1) := by decide +kernel
theorem dX9_shrinks_85 : decode cX9_shrinks 85 = .ok (.invokevirtual 243, 3) := by decide +kernel
theorem dX9_shrinks_88 : decode cX9_shrinks 88 = .ok (.ifCond .eq 7, 3) := by decide +kernel
theorem dX9_shrinks_91 : decode cX9_shrinks 91 = .ok (.iconst 0, 1) := by decide +kernel
theorem dX9_shrinks_92 : decode cX9_shrinks 92 = .ok (.goto 4, 3) := by decide +kernel
theorem dX9_shrinks_95 : decode cX9_shrinks 95 = .ok (.iconst 1, 1) := by decide +kernel
theorem dX9_shrinks_96 : decode cX9_shrinks 96 = .ok (.isub, 1) := by decide +kernel
theorem dX9_shrinks_97 : decode cX9_shrinks 97 = .ok (.ireturn, 1) := by decide +kernel
theorem dX9_shrinks_98 : decode cX9_shrinks 98 = .ok (.aload_n 0, 1) := by decide +kernel
theorem dX9_shrinks_99 : decode cX9_shrinks 99 = .ok (.iload_n 2, 1) := by decide +kernel
theorem dX9_shrinks_100 : decode cX9_shrinks 100 = .ok (.invokevirtual 243, 3) := by decide +kernel
theorem dX9_shrinks_103 : decode cX9_shrinks 103 = .ok (.ifCond .eq 9, 3) := by decide +kernel
theorem dX9_shrinks_106 : decode cX9_shrinks 106 = .ok (.iload_n 3, 1) := by decide +kernel
theorem dX9_shrinks_107 : decode cX9_shrinks 107 = .ok (.iconst 2, 1) := by decide +kernel
theorem dX9_shrinks_108 : decode cX9_shrinks 108 = .ok (.idiv, 1) := by decide +kernel
theorem dX9_shrinks_109 : decode cX9_shrinks 109 = .ok (.goto 4, 3) := by decide +kernel
theorem dX9_shrinks_112 : decode cX9_shrinks 112 = .ok (.iload_n 3, 1) := by decide +kernel
theorem dX9_shrinks_113 : decode cX9_shrinks 113 = .ok (.ireturn, 1) := by decide +kernel
theorem dX9_shrinks_114 : decode cX9_shrinks 114 = .ok (.iload_n 3, 1) := by decide +kernel
theorem dX9_shrinks_115 : decode cX9_shrinks 115 = .ok (.ineg, 1) := by decide +kernel
theorem dX9_shrinks_116 : decode cX9_shrinks 116 = .ok (.ireturn, 1) := by decide +kernel
theorem dX9_shrinks_117 : decode cX9_shrinks 117 = .ok (.aload_n 0, 1) := by decide +kernel
theorem dX9_shrinks_118 : decode cX9_shrinks 118 = .ok (.getfield 46, 3) := by decide +kernel
theorem dX9_shrinks_121 : decode cX9_shrinks 121 = .ok (.bipush 24, 2) := by decide +kernel
theorem dX9_shrinks_123 : decode cX9_shrinks 123 = .ok (.iload_n 2, 1) := by decide +kernel
theorem dX9_shrinks_124 : decode cX9_shrinks 124 = .ok (.iadd, 1) := by decide +kernel
theorem dX9_shrinks_125 : decode cX9_shrinks 125 = .ok (.iaload, 1) := by decide +kernel
theorem dX9_shrinks_126 : decode cX9_shrinks 126 = .ok (.ifCond .le 8, 3) := by decide +kernel
theorem dX9_shrinks_129 : decode cX9_shrinks 129 = .ok (.iload_n 3, 1) := by decide +kernel
theorem dX9_shrinks_130 : decode cX9_shrinks 130 = .ok (.ineg, 1) := by decide +kernel
theorem dX9_shrinks_131 : decode cX9_shrinks 131 = .ok (.goto 4, 3) := by decide +kernel
theorem dX9_shrinks_134 : decode cX9_shrinks 134 = .ok (.iload_n 3, 1) := by decide +kernel
theorem dX9_shrinks_135 : decode cX9_shrinks 135 = .ok (.ireturn, 1) := by decide +kernel
theorem dX9_shrinks_136 : decode cX9_shrinks 136 = .ok (.iload_n 3, 1) := by decide +kernel
theorem dX9_shrinks_137 : decode cX9_shrinks 137 = .ok (.ireturn, 1) := by decide +kernel
theorem dX9_step_0 : decode cX9_step 0 = .ok (.bipush 8, 2) := by decide +kernel
theorem dX9_step_2 : decode cX9_step 2 = .ok (.aload_n 0, 1) := by decide +kernel
theorem dX9_step_3 : decode cX9_step 3 = .ok (.iload_n 1, 1) := by decide +kernel
theorem dX9_step_4 : decode cX9_step 4 = .ok (.iload_n 2, 1) := by decide +kernel
theorem dX9_step_5 : decode cX9_step 5 = .ok (.iload_n 3, 1) := by decide +kernel
theorem dX9_step_6 : decode cX9_step 6 = .ok (.invokevirtual 246, 3) := by decide +kernel
theorem dX9_step_9 : decode cX9_step 9 = .ok (.imul, 1) := by decide +kernel
theorem dX9_step_10 : decode cX9_step 10 = .ok (.bipush 8, 2) := by decide +kernel
theorem dX9_step_12 : decode cX9_step 12 = .ok (.aload_n 0, 1) := by decide +kernel
theorem dX9_step_13 : decode cX9_step 13 = .ok (.getfield 46, 3) := by decide +kernel
theorem dX9_step_16 : decode cX9_step 16 = .ok (.bipush 12, 2) := by decide +kernel
theorem dX9_step_18 : decode cX9_step 18 = .ok (.iload_n 2, 1) := by decide +kernel
theorem dX9_step_19 : decode cX9_step 19 = .ok (.iadd, 1) := by decide +kernel
theorem dX9_step_20 : decode cX9_step 20 = .ok (.iaload, 1) := by decide +kernel
theorem dX9_step_21 : decode cX9_step 21 = .ok (.iadd, 1) := by decide +kernel
theorem dX9_step_22 : decode cX9_step 22 = .ok (.idiv, 1) := by decide +kernel
theorem dX9_step_23 : decode cX9_step 23 = .ok (.istore 4, 2) := by decide +kernel
theorem dX9_step_25 : decode cX9_step 25 = .ok (.aload_n 0, 1) := by decide +kernel
theorem dX9_step_26 : decode cX9_step 26 = .ok (.getfield 46, 3) := by decide +kernel
theorem dX9_step_29 : decode cX9_step 29 = .ok (.iconst 0, 1) := by decide +kernel
theorem dX9_step_30 : decode cX9_step 30 = .ok (.iload_n 2, 1) := by decide +kernel
theorem dX9_step_31 : decode cX9_step 31 = .ok (.iadd, 1) := by decide +kernel
theorem dX9_step_32 : decode cX9_step 32 = .ok (.iaload, 1) := by decide +kernel
theorem dX9_step_33 : decode cX9_step 33 = .ok (.bipush 100, 2) := by decide +kernel
theorem dX9_step_35 : decode cX9_step 35 = .ok (.if_icmp .lt 10, 3) := by decide +kernel
theorem dX9_step_38 : decode cX9_step 38 = .ok (.iload 4, 2) := by decide +kernel
theorem dX9_step_40 : decode cX9_step 40 = .ok (.iconst 2, 1) := by decide +kernel
theorem dX9_step_41 : decode cX9_step 41 = .ok (.idiv, 1) := by decide +kernel
theorem dX9_step_42 : decode cX9_step 42 = .ok (.goto 5, 3) := by decide +kernel
theorem dX9_step_45 : decode cX9_step 45 = .ok (.iload 4, 2) := by decide +kernel
theorem dX9_step_47 : decode cX9_step 47 = .ok (.istore 4, 2) := by decide +kernel
theorem dX9_step_49 : decode cX9_step 49 = .ok (.aload_n 0, 1) := by decide +kernel
theorem dX9_step_50 : decode cX9_step 50 = .ok (.getfield 52, 3) := by decide +kernel
theorem dX9_step_53 : decode cX9_step 53 = .ok (.iload_n 2, 1) := by decide +kernel
theorem dX9_step_54 : decode cX9_step 54 = .ok (.baload, 1) := by decide +kernel
theorem dX9_step_55 : decode cX9_step 55 = .ok (.ifCond .eq 17, 3) := by decide +kernel
theorem dX9_step_58 : decode cX9_step 58 = .ok (.aload_n 0, 1) := by decide +kernel
theorem dX9_step_59 : decode cX9_step 59 = .ok (.getfield 49, 3) := by decide +kernel
theorem dX9_step_62 : decode cX9_step 62 = .ok (.iload_n 2, 1) := by decide +kernel
theorem dX9_step_63 : decode cX9_step 63 = .ok (.dup2, 1) := by decide +kernel
theorem dX9_step_64 : decode cX9_step 64 = .ok (.iaload, 1) := by decide +kernel
theorem dX9_step_65 : decode cX9_step 65 = .ok (.iload 4, 2) := by decide +kernel
theorem dX9_step_67 : decode cX9_step 67 = .ok (.iadd, 1) := by decide +kernel
theorem dX9_step_68 : decode cX9_step 68 = .ok (.iastore, 1) := by decide +kernel
theorem dX9_step_69 : decode cX9_step 69 = .ok (.goto 17, 3) := by decide +kernel
theorem dX9_step_72 : decode cX9_step 72 = .ok (.aload_n 0, 1) := by decide +kernel
theorem dX9_step_73 : decode cX9_step 73 = .ok (.getfield 46, 3) := by decide +kernel
theorem dX9_step_76 : decode cX9_step 76 = .ok (.bipush 24, 2) := by decide +kernel
theorem dX9_step_78 : decode cX9_step 78 = .ok (.iload_n 2, 1) := by decide +kernel
theorem dX9_step_79 : decode cX9_step 79 = .ok (.iadd, 1) := by decide +kernel
theorem dX9_step_80 : decode cX9_step 80 = .ok (.dup2, 1) := by decide +kernel
theorem dX9_step_81 : decode cX9_step 81 = .ok (.iaload, 1) := by decide +kernel
theorem dX9_step_82 : decode cX9_step 82 = .ok (.iload 4, 2) := by decide +kernel
theorem dX9_step_84 : decode cX9_step 84 = .ok (.iadd, 1) := by decide +kernel
theorem dX9_step_85 : decode cX9_step 85 = .ok (.iastore, 1) := by decide +kernel
theorem dX9_step_86 : decode cX9_step 86 = .ok (.iconst 0, 1) := by decide +kernel
theorem dX9_step_87 : decode cX9_step 87 = .ok (.istore 5, 2) := by decide +kernel
theorem dX9_step_89 : decode cX9_step 89 = .ok (.iload 5, 2) := by decide +kernel
theorem dX9_step_91 : decode cX9_step 91 = .ok (.aload_n 0, 1) := by decide +kernel
theorem dX9_step_92 : decode cX9_step 92 = .ok (.getfield 212, 3) := by decide +kernel
theorem dX9_step_95 : decode cX9_step 95 = .ok (.if_icmp .ge 43, 3) := by decide +kernel
theorem dX9_step_98 : decode cX9_step 98 = .ok (.aload_n 0, 1) := by decide +kernel
theorem dX9_step_99 : decode cX9_step 99 = .ok (.getfield 46, 3) := by decide +kernel
theorem dX9_step_102 : decode cX9_step 102 = .ok (.bipush 36, 2) := by decide +kernel
theorem dX9_step_104 : decode cX9_step 104 = .ok (.iload 5, 2) := by decide +kernel
theorem dX9_step_106 : decode cX9_step 106 = .ok (.iadd, 1) := by decide +kernel
theorem dX9_step_107 : decode cX9_step 107 = .ok (.dup2, 1) := by decide +kernel
theorem dX9_step_108 : decode cX9_step 108 = .ok (.iaload, 1) := by decide +kernel
theorem dX9_step_109 : decode cX9_step 109 = .ok (.iload 5, 2) := by decide +kernel
theorem dX9_step_111 : decode cX9_step 111 = .ok (.iload_n 2, 1) := by decide +kernel
theorem dX9_step_112 : decode cX9_step 112 = .ok (.if_icmp .ne 15, 3) := by decide +kernel
theorem dX9_step_115 : decode cX9_step 115 = .ok (.iload 4, 2) := by decide +kernel
theorem dX9_step_117 : decode cX9_step 117 = .ok (.aload_n 0, 1) := by decide +kernel
theorem dX9_step_118 : decode cX9_step 118 = .ok (.getfield 212, 3) := by decide +kernel
theorem dX9_step_121 : decode cX9_step 121 = .ok (.iconst 1, 1) := by decide +kernel
theorem dX9_step_122 : decode cX9_step 122 = .ok (.isub, 1) := by decide +kernel
theorem dX9_step_123 : decode cX9_step 123 = .ok (.imul, 1) := by decide +kernel
theorem dX9_step_124 : decode cX9_step 124 = .ok (.goto 6, 3) := by decide +kernel
theorem dX9_step_127 : decode cX9_step 127 = .ok (.iload 4, 2) := by decide +kernel
theorem dX9_step_129 : decode cX9_step 129 = .ok (.ineg, 1) := by decide +kernel
theorem dX9_step_130 : decode cX9_step 130 = .ok (.iadd, 1) := by decide +kernel
theorem dX9_step_131 : decode cX9_step 131 = .ok (.iastore, 1) := by decide +kernel
theorem dX9_step_132 : decode cX9_step 132 = .ok (.iinc 5 1, 3) := by decide +kernel
theorem dX9_step_135 : decode cX9_step 135 = .ok (.goto (-46), 3) := by decide +kernel
theorem dX9_step_138 : decode cX9_step 138 = .ok (.aload_n 0, 1) := by decide +kernel
theorem dX9_step_139 : decode cX9_step 139 = .ok (.getfield 46, 3) := by decide +kernel
theorem dX9_step_142 : decode cX9_step 142 = .ok (.iconst 0, 1) := by decide +kernel
theorem dX9_step_143 : decode cX9_step 143 = .ok (.iload_n 2, 1) := by decide +kernel
theorem dX9_step_144 : decode cX9_step 144 = .ok (.iadd, 1) := by decide +kernel
theorem dX9_step_145 : decode cX9_step 145 = .ok (.dup2, 1) := by decide +kernel
theorem dX9_step_146 : decode cX9_step 146 = .ok (.iaload, 1) := by decide +kernel
theorem dX9_step_147 : decode cX9_step 147 = .ok (.iload_n 1, 1) := by decide +kernel
theorem dX9_step_148 : decode cX9_step 148 = .ok (.iconst 1, 1) := by decide +kernel
theorem dX9_step_149 : decode cX9_step 149 = .ok (.if_icmp .ne 7, 3) := by decide +kernel
theorem dX9_step_152 : decode cX9_step 152 = .ok (.iload_n 3, 1) := by decide +kernel
theorem dX9_step_153 : decode cX9_step 153 = .ok (.goto 19, 3) := by decide +kernel
theorem dX9_step_156 : decode cX9_step 156 = .ok (.iload_n 1, 1) := by decide +kernel
theorem dX9_step_157 : decode cX9_step 157 = .ok (.bipush 7, 2) := by decide +kernel
theorem dX9_step_159 : decode cX9_step 159 = .ok (.if_icmp .ne 10, 3) := by decide +kernel
theorem dX9_step_162 : decode cX9_step 162 = .ok (.bipush 6, 2) := by decide +kernel
theorem dX9_step_164 : decode cX9_step 164 = .ok (.iload_n 3, 1) := by decide +kernel
theorem dX9_step_165 : decode cX9_step 165 = .ok (.imul, 1) := by decide +kernel
theorem dX9_step_166 : decode cX9_step 166 = .ok (.goto 6, 3) := by decide +kernel
theorem dX9_step_169 : decode cX9_step 169 = .ok (.iconst 4, 1) := by decide +kernel
theorem dX9_step_170 : decode cX9_step 170 = .ok (.iload_n 3, 1) := by decide +kernel
theorem dX9_step_171 : decode cX9_step 171 = .ok (.imul, 1) := by decide +kernel
theorem dX9_step_172 : decode cX9_step 172 = .ok (.iadd, 1) := by decide +kernel
theorem dX9_step_173 : decode cX9_step 173 = .ok (.iastore, 1) := by decide +kernel
theorem dX9_step_174 : decode cX9_step 174 = .ok (.aload_n 0, 1) := by decide +kernel
theorem dX9_step_175 : decode cX9_step 175 = .ok (.getfield 46, 3) := by decide +kernel
theorem dX9_step_178 : decode cX9_step 178 = .ok (.bipush 12, 2) := by decide +kernel
theorem dX9_step_180 : decode cX9_step 180 = .ok (.iload_n 2, 1) := by decide +kernel
theorem dX9_step_181 : decode cX9_step 181 = .ok (.iadd, 1) := by decide +kernel
theorem dX9_step_182 : decode cX9_step 182 = .ok (.dup2, 1) := by decide +kernel
theorem dX9_step_183 : decode cX9_step 183 = .ok (.iaload, 1) := by decide +kernel
theorem dX9_step_184 : decode cX9_step 184 = .ok (.iload_n 1, 1) := by decide +kernel
theorem dX9_step_185 : decode cX9_step 185 = .ok (.bipush 7, 2) := by decide +kernel
theorem dX9_step_187 : decode cX9_step 187 = .ok (.if_icmp .ne 7, 3) := by decide +kernel
theorem dX9_step_190 : decode cX9_step 190 = .ok (.iconst 0, 1) := by decide +kernel
theorem dX9_step_191 : decode cX9_step 191 = .ok (.goto 18, 3) := by decide +kernel
theorem dX9_step_194 : decode cX9_step 194 = .ok (.iload_n 1, 1) := by decide +kernel
theorem dX9_step_195 : decode cX9_step 195 = .ok (.iconst 1, 1) := by decide +kernel
theorem dX9_step_196 : decode cX9_step 196 = .ok (.if_icmp .eq 8, 3) := by decide +kernel
theorem dX9_step_199 : decode cX9_step 199 = .ok (.iload_n 1, 1) := by decide +kernel
theorem dX9_step_200 : decode cX9_step 200 = .ok (.iconst 5, 1) := by decide +kernel
theorem dX9_step_201 : decode cX9_step 201 = .ok (.if_icmp .ne 7, 3) := by decide +kernel
theorem dX9_step_204 : decode cX9_step 204 = .ok (.iconst 1, 1) := by decide +kernel
theorem dX9_step_205 : decode cX9_step 205 = .ok (.goto 4, 3) := by decide +kernel
theorem dX9_step_208 : decode cX9_step 208 = .ok (.iconst 2, 1) := by decide +kernel
theorem dX9_step_209 : decode cX9_step 209 = .ok (.iadd, 1) := by decide +kernel
theorem dX9_step_210 : decode cX9_step 210 = .ok (.iastore, 1) := by decide +kernel
theorem dX9_step_211 : decode cX9_step 211 = .ok (.aload_n 0, 1) := by decide +kernel
theorem dX9_step_212 : decode cX9_step 212 = .ok (.invokevirtual 249, 3) := by decide +kernel
theorem dX9_step_215 : decode cX9_step 215 = .ok (.return_, 1) := by decide +kernel
theorem dX9_free_0 : decode cX9_free 0 = .ok (.aload_n 0, 1) := by decide +kernel
theorem dX9_free_1 : decode cX9_free 1 = .ok (.getfield 52, 3) := by decide +kernel
theorem dX9_free_4 : decode cX9_free 4 = .ok (.iload_n 1, 1) := by decide +kernel
theorem dX9_free_5 : decode cX9_free 5 = .ok (.baload, 1) := by decide +kernel
theorem dX9_free_6 : decode cX9_free 6 = .ok (.ifCond .eq 37, 3) := by decide +kernel
theorem dX9_free_9 : decode cX9_free 9 = .ok (.aload_n 0, 1) := by decide +kernel
theorem dX9_free_10 : decode cX9_free 10 = .ok (.getfield 52, 3) := by decide +kernel
theorem dX9_free_13 : decode cX9_free 13 = .ok (.iload_n 1, 1) := by decide +kernel
theorem dX9_free_14 : decode cX9_free 14 = .ok (.iconst 0, 1) := by decide +kernel
theorem dX9_free_15 : decode cX9_free 15 = .ok (.bastore, 1) := by decide +kernel
theorem dX9_free_16 : decode cX9_free 16 = .ok (.aload_n 0, 1) := by decide +kernel
theorem dX9_free_17 : decode cX9_free 17 = .ok (.getfield 46, 3) := by decide +kernel
theorem dX9_free_20 : decode cX9_free 20 = .ok (.bipush 24, 2) := by decide +kernel
theorem dX9_free_22 : decode cX9_free 22 = .ok (.iload_n 1, 1) := by decide +kernel
theorem dX9_free_23 : decode cX9_free 23 = .ok (.iadd, 1) := by decide +kernel
theorem dX9_free_24 : decode cX9_free 24 = .ok (.dup2, 1) := by decide +kernel
theorem dX9_free_25 : decode cX9_free 25 = .ok (.iaload, 1) := by decide +kernel
theorem dX9_free_26 : decode cX9_free 26 = .ok (.aload_n 0, 1) := by decide +kernel
theorem dX9_free_27 : decode cX9_free 27 = .ok (.getfield 49, 3) := by decide +kernel
theorem dX9_free_30 : decode cX9_free 30 = .ok (.iload_n 1, 1) := by decide +kernel
theorem dX9_free_31 : decode cX9_free 31 = .ok (.iaload, 1) := by decide +kernel
theorem dX9_free_32 : decode cX9_free 32 = .ok (.iconst 2, 1) := by decide +kernel
theorem dX9_free_33 : decode cX9_free 33 = .ok (.idiv, 1) := by decide +kernel
theorem dX9_free_34 : decode cX9_free 34 = .ok (.iadd, 1) := by decide +kernel
theorem dX9_free_35 : decode cX9_free 35 = .ok (.iastore, 1) := by decide +kernel
theorem dX9_free_36 : decode cX9_free 36 = .ok (.aload_n 0, 1) := by decide +kernel
theorem dX9_free_37 : decode cX9_free 37 = .ok (.getfield 49, 3) := by decide +kernel
theorem dX9_free_40 : decode cX9_free 40 = .ok (.iload_n 1, 1) := by decide +kernel
theorem dX9_free_41 : decode cX9_free 41 = .ok (.iconst 0, 1) := by decide +kernel
theorem dX9_free_42 : decode cX9_free 42 = .ok (.iastore, 1) := by decide +kernel
theorem dX9_free_43 : decode cX9_free 43 = .ok (.return_, 1) := by decide +kernel
theorem dX9_doAct_0 : decode cX9_doAct 0 = .ok (.aload_n 0, 1) := by decide +kernel
theorem dX9_doAct_1 : decode cX9_doAct 1 = .ok (.getfield 19, 3) := by decide +kernel
theorem dX9_doAct_4 : decode cX9_doAct 4 = .ok (.iconst 4, 1) := by decide +kernel
theorem dX9_doAct_5 : decode cX9_doAct 5 = .ok (.iload_n 1, 1) := by decide +kernel
theorem dX9_doAct_6 : decode cX9_doAct 6 = .ok (.imul, 1) := by decide +kernel
theorem dX9_doAct_7 : decode cX9_doAct 7 = .ok (.iaload, 1) := by decide +kernel
theorem dX9_doAct_8 : decode cX9_doAct 8 = .ok (.istore_n 2, 1) := by decide +kernel
theorem dX9_doAct_9 : decode cX9_doAct 9 = .ok (.aload_n 0, 1) := by decide +kernel
theorem dX9_doAct_10 : decode cX9_doAct 10 = .ok (.getfield 19, 3) := by decide +kernel
theorem dX9_doAct_13 : decode cX9_doAct 13 = .ok (.iconst 4, 1) := by decide +kernel
theorem dX9_doAct_14 : decode cX9_doAct 14 = .ok (.iload_n 1, 1) := by decide +kernel
theorem dX9_doAct_15 : decode cX9_doAct 15 = .ok (.imul, 1) := by decide +kernel
theorem dX9_doAct_16 : decode cX9_doAct 16 = .ok (.iconst 1, 1) := by decide +kernel
theorem dX9_doAct_17 : decode cX9_doAct 17 = .ok (.iadd, 1) := by decide +kernel
theorem dX9_doAct_18 : decode cX9_doAct 18 = .ok (.iaload, 1) := by decide +kernel
theorem dX9_doAct_19 : decode cX9_doAct 19 = .ok (.istore_n 3, 1) := by decide +kernel
theorem dX9_doAct_20 : decode cX9_doAct 20 = .ok (.iload_n 2, 1) := by decide +kernel
end
section
theorem dX9_doAct_21 : decode cX9_doAct 21 = .ok (.bipush 8, 2) := by decide +kernel
theorem dX9_doAct_23 : decode cX9_doAct 23 = .ok (.if_icmp .ne 25, 3) := by decide +kernel
theorem dX9_doAct_26 : decode cX9_doAct 26 = .ok (.iconst 0, 1) := by decide +kernel
theorem dX9_doAct_27 : decode cX9_doAct 27 = .ok (.istore 4, 2) := by decide +kernel
theorem dX9_doAct_29 : decode cX9_doAct 29 = .ok (.iload 4, 2) := by decide +kernel
theorem dX9_doAct_31 : decode cX9_doAct 31 = .ok (.iload_n 3, 1) := by decide +kernel
theorem dX9_doAct_32 : decode cX9_doAct 32 = .ok (.if_icmp .ge 13, 3) := by decide +kernel
theorem dX9_doAct_35 : decode cX9_doAct 35 = .ok (.aload_n 0, 1) := by decide +kernel
theorem dX9_doAct_36 : decode cX9_doAct 36 = .ok (.invokevirtual 249, 3) := by decide +kernel
theorem dX9_doAct_39 : decode cX9_doAct 39 = .ok (.iinc 4 1, 3) := by decide +kernel
theorem dX9_doAct_42 : decode cX9_doAct 42 = .ok (.goto (-13), 3) := by decide +kernel
theorem dX9_doAct_45 : decode cX9_doAct 45 = .ok (.goto 49, 3) := by decide +kernel
theorem dX9_doAct_48 : decode cX9_doAct 48 = .ok (.iload_n 2, 1) := by decide +kernel
theorem dX9_doAct_49 : decode cX9_doAct 49 = .ok (.bipush 9, 2) := by decide +kernel
theorem dX9_doAct_51 : decode cX9_doAct 51 = .ok (.if_icmp .ne 13, 3) := by decide +kernel
theorem dX9_doAct_54 : decode cX9_doAct 54 = .ok (.aload_n 0, 1) := by decide +kernel
theorem dX9_doAct_55 : decode cX9_doAct 55 = .ok (.getfield 52, 3) := by decide +kernel
theorem dX9_doAct_58 : decode cX9_doAct 58 = .ok (.iload_n 3, 1) := by decide +kernel
theorem dX9_doAct_59 : decode cX9_doAct 59 = .ok (.iconst 1, 1) := by decide +kernel
theorem dX9_doAct_60 : decode cX9_doAct 60 = .ok (.bastore, 1) := by decide +kernel
theorem dX9_doAct_61 : decode cX9_doAct 61 = .ok (.goto 33, 3) := by decide +kernel
theorem dX9_doAct_64 : decode cX9_doAct 64 = .ok (.iload_n 2, 1) := by decide +kernel
theorem dX9_doAct_65 : decode cX9_doAct 65 = .ok (.bipush 10, 2) := by decide +kernel
theorem dX9_doAct_67 : decode cX9_doAct 67 = .ok (.if_icmp .ne 11, 3) := by decide +kernel
theorem dX9_doAct_70 : decode cX9_doAct 70 = .ok (.aload_n 0, 1) := by decide +kernel
theorem dX9_doAct_71 : decode cX9_doAct 71 = .ok (.iload_n 3, 1) := by decide +kernel
theorem dX9_doAct_72 : decode cX9_doAct 72 = .ok (.invokevirtual 252, 3) := by decide +kernel
theorem dX9_doAct_75 : decode cX9_doAct 75 = .ok (.goto 19, 3) := by decide +kernel
theorem dX9_doAct_78 : decode cX9_doAct 78 = .ok (.aload_n 0, 1) := by decide +kernel
theorem dX9_doAct_79 : decode cX9_doAct 79 = .ok (.iload_n 2, 1) := by decide +kernel
theorem dX9_doAct_80 : decode cX9_doAct 80 = .ok (.iload_n 3, 1) := by decide +kernel
theorem dX9_doAct_81 : decode cX9_doAct 81 = .ok (.aload_n 0, 1) := by decide +kernel
theorem dX9_doAct_82 : decode cX9_doAct 82 = .ok (.getfield 19, 3) := by decide +kernel
theorem dX9_doAct_85 : decode cX9_doAct 85 = .ok (.iconst 4, 1) := by decide +kernel
theorem dX9_doAct_86 : decode cX9_doAct 86 = .ok (.iload_n 1, 1) := by decide +kernel
theorem dX9_doAct_87 : decode cX9_doAct 87 = .ok (.imul, 1) := by decide +kernel
theorem dX9_doAct_88 : decode cX9_doAct 88 = .ok (.iconst 2, 1) := by decide +kernel
theorem dX9_doAct_89 : decode cX9_doAct 89 = .ok (.iadd, 1) := by decide +kernel
theorem dX9_doAct_90 : decode cX9_doAct 90 = .ok (.iaload, 1) := by decide +kernel
theorem dX9_doAct_91 : decode cX9_doAct 91 = .ok (.invokevirtual 255, 3) := by decide +kernel
theorem dX9_doAct_94 : decode cX9_doAct 94 = .ok (.return_, 1) := by decide +kernel
theorem dX9_go_0 : decode cX9_go 0 = .ok (.iconst 0, 1) := by decide +kernel
theorem dX9_go_1 : decode cX9_go 1 = .ok (.istore_n 2, 1) := by decide +kernel
theorem dX9_go_2 : decode cX9_go 2 = .ok (.iload_n 2, 1) := by decide +kernel
theorem dX9_go_3 : decode cX9_go 3 = .ok (.bipush 48, 2) := by decide +kernel
theorem dX9_go_5 : decode cX9_go 5 = .ok (.if_icmp .ge 62, 3) := by decide +kernel
theorem dX9_go_8 : decode cX9_go 8 = .ok (.aload_n 0, 1) := by decide +kernel
theorem dX9_go_9 : decode cX9_go 9 = .ok (.getfield 46, 3) := by decide +kernel
theorem dX9_go_12 : decode cX9_go 12 = .ok (.iload_n 2, 1) := by decide +kernel
theorem dX9_go_13 : decode cX9_go 13 = .ok (.iload_n 2, 1) := by decide +kernel
theorem dX9_go_14 : decode cX9_go 14 = .ok (.i2l, 1) := by decide +kernel
theorem dX9_go_15 : decode cX9_go 15 = .ok (.ldc2_w 259, 3) := by decide +kernel
theorem dX9_go_18 : decode cX9_go 18 = .ok (.ldc2_w 261, 3) := by decide +kernel
theorem dX9_go_21 : decode cX9_go 21 = .ok (.invokestatic 81, 3) := by decide +kernel
theorem dX9_go_24 : decode cX9_go 24 = .ok (.ifCond .eq 15, 3) := by decide +kernel
theorem dX9_go_27 : decode cX9_go 27 = .ok (.aload_n 0, 1) := by decide +kernel
theorem dX9_go_28 : decode cX9_go 28 = .ok (.getfield 59, 3) := by decide +kernel
theorem dX9_go_31 : decode cX9_go 31 = .ok (.iload_n 2, 1) := by decide +kernel
theorem dX9_go_32 : decode cX9_go 32 = .ok (.bipush 24, 2) := by decide +kernel
theorem dX9_go_34 : decode cX9_go 34 = .ok (.isub, 1) := by decide +kernel
theorem dX9_go_35 : decode cX9_go 35 = .ok (.iaload, 1) := by decide +kernel
theorem dX9_go_36 : decode cX9_go 36 = .ok (.goto 4, 3) := by decide +kernel
theorem dX9_go_39 : decode cX9_go 39 = .ok (.iconst 0, 1) := by decide +kernel
theorem dX9_go_40 : decode cX9_go 40 = .ok (.iastore, 1) := by decide +kernel
theorem dX9_go_41 : decode cX9_go 41 = .ok (.aload_n 0, 1) := by decide +kernel
theorem dX9_go_42 : decode cX9_go 42 = .ok (.getfield 49, 3) := by decide +kernel
theorem dX9_go_45 : decode cX9_go 45 = .ok (.iload_n 2, 1) := by decide +kernel
theorem dX9_go_46 : decode cX9_go 46 = .ok (.bipush 12, 2) := by decide +kernel
theorem dX9_go_48 : decode cX9_go 48 = .ok (.irem, 1) := by decide +kernel
theorem dX9_go_49 : decode cX9_go 49 = .ok (.iconst 0, 1) := by decide +kernel
theorem dX9_go_50 : decode cX9_go 50 = .ok (.iastore, 1) := by decide +kernel
theorem dX9_go_51 : decode cX9_go 51 = .ok (.aload_n 0, 1) := by decide +kernel
theorem dX9_go_52 : decode cX9_go 52 = .ok (.getfield 52, 3) := by decide +kernel
theorem dX9_go_55 : decode cX9_go 55 = .ok (.iload_n 2, 1) := by decide +kernel
theorem dX9_go_56 : decode cX9_go 56 = .ok (.bipush 12, 2) := by decide +kernel
theorem dX9_go_58 : decode cX9_go 58 = .ok (.irem, 1) := by decide +kernel
theorem dX9_go_59 : decode cX9_go 59 = .ok (.iconst 0, 1) := by decide +kernel
theorem dX9_go_60 : decode cX9_go 60 = .ok (.bastore, 1) := by decide +kernel
theorem dX9_go_61 : decode cX9_go 61 = .ok (.iinc 2 1, 3) := by decide +kernel
theorem dX9_go_64 : decode cX9_go 64 = .ok (.goto (-62), 3) := by decide +kernel
theorem dX9_go_67 : decode cX9_go 67 = .ok (.aload_n 0, 1) := by decide +kernel
theorem dX9_go_68 : decode cX9_go 68 = .ok (.iconst 0, 1) := by decide +kernel
theorem dX9_go_69 : decode cX9_go 69 = .ok (.putfield 240, 3) := by decide +kernel
theorem dX9_go_72 : decode cX9_go 72 = .ok (.iconst 0, 1) := by decide +kernel
theorem dX9_go_73 : decode cX9_go 73 = .ok (.istore_n 2, 1) := by decide +kernel
theorem dX9_go_74 : decode cX9_go 74 = .ok (.iload_n 2, 1) := by decide +kernel
theorem dX9_go_75 : decode cX9_go 75 = .ok (.aload_n 0, 1) := by decide +kernel
theorem dX9_go_76 : decode cX9_go 76 = .ok (.getfield 215, 3) := by decide +kernel
theorem dX9_go_79 : decode cX9_go 79 = .ok (.if_icmp .ge 59, 3) := by decide +kernel
theorem dX9_go_82 : decode cX9_go 82 = .ok (.iconst 0, 1) := by decide +kernel
theorem dX9_go_83 : decode cX9_go 83 = .ok (.istore_n 3, 1) := by decide +kernel
theorem dX9_go_84 : decode cX9_go 84 = .ok (.iload_n 3, 1) := by decide +kernel
theorem dX9_go_85 : decode cX9_go 85 = .ok (.aload_n 0, 1) := by decide +kernel
theorem dX9_go_86 : decode cX9_go 86 = .ok (.getfield 218, 3) := by decide +kernel
theorem dX9_go_89 : decode cX9_go 89 = .ok (.if_icmp .ge 43, 3) := by decide +kernel
theorem dX9_go_92 : decode cX9_go 92 = .ok (.aload_n 0, 1) := by decide +kernel
theorem dX9_go_93 : decode cX9_go 93 = .ok (.getfield 19, 3) := by decide +kernel
theorem dX9_go_96 : decode cX9_go 96 = .ok (.iconst 4, 1) := by decide +kernel
theorem dX9_go_97 : decode cX9_go 97 = .ok (.iload_n 3, 1) := by decide +kernel
theorem dX9_go_98 : decode cX9_go 98 = .ok (.imul, 1) := by decide +kernel
theorem dX9_go_99 : decode cX9_go 99 = .ok (.iconst 3, 1) := by decide +kernel
theorem dX9_go_100 : decode cX9_go 100 = .ok (.iadd, 1) := by decide +kernel
theorem dX9_go_101 : decode cX9_go 101 = .ok (.iaload, 1) := by decide +kernel
theorem dX9_go_102 : decode cX9_go 102 = .ok (.aload_n 0, 1) := by decide +kernel
theorem dX9_go_103 : decode cX9_go 103 = .ok (.getfield 62, 3) := by decide +kernel
theorem dX9_go_106 : decode cX9_go 106 = .ok (.iload_n 2, 1) := by decide +kernel
theorem dX9_go_107 : decode cX9_go 107 = .ok (.iaload, 1) := by decide +kernel
theorem dX9_go_108 : decode cX9_go 108 = .ok (.if_icmp .ne 18, 3) := by decide +kernel
theorem dX9_go_111 : decode cX9_go 111 = .ok (.aload_n 0, 1) := by decide +kernel
theorem dX9_go_112 : decode cX9_go 112 = .ok (.getfield 62, 3) := by decide +kernel
theorem dX9_go_115 : decode cX9_go 115 = .ok (.iload_n 2, 1) := by decide +kernel
theorem dX9_go_116 : decode cX9_go 116 = .ok (.iaload, 1) := by decide +kernel
theorem dX9_go_117 : decode cX9_go 117 = .ok (.iload_n 1, 1) := by decide +kernel
theorem dX9_go_118 : decode cX9_go 118 = .ok (.if_icmp .eq 8, 3) := by decide +kernel
theorem dX9_go_121 : decode cX9_go 121 = .ok (.aload_n 0, 1) := by decide +kernel
theorem dX9_go_122 : decode cX9_go 122 = .ok (.iload_n 3, 1) := by decide +kernel
theorem dX9_go_123 : decode cX9_go 123 = .ok (.invokevirtual 263, 3) := by decide +kernel
theorem dX9_go_126 : decode cX9_go 126 = .ok (.iinc 3 1, 3) := by decide +kernel
theorem dX9_go_129 : decode cX9_go 129 = .ok (.goto (-45), 3) := by decide +kernel
theorem dX9_go_132 : decode cX9_go 132 = .ok (.iinc 2 1, 3) := by decide +kernel
theorem dX9_go_135 : decode cX9_go 135 = .ok (.goto (-61), 3) := by decide +kernel
theorem dX9_go_138 : decode cX9_go 138 = .ok (.iconst 0, 1) := by decide +kernel
theorem dX9_go_139 : decode cX9_go 139 = .ok (.istore_n 2, 1) := by decide +kernel
theorem dX9_go_140 : decode cX9_go 140 = .ok (.iload_n 2, 1) := by decide +kernel
theorem dX9_go_141 : decode cX9_go 141 = .ok (.aload_n 0, 1) := by decide +kernel
theorem dX9_go_142 : decode cX9_go 142 = .ok (.getfield 212, 3) := by decide +kernel
theorem dX9_go_145 : decode cX9_go 145 = .ok (.if_icmp .ge 14, 3) := by decide +kernel
theorem dX9_go_148 : decode cX9_go 148 = .ok (.aload_n 0, 1) := by decide +kernel
theorem dX9_go_149 : decode cX9_go 149 = .ok (.iload_n 2, 1) := by decide +kernel
theorem dX9_go_150 : decode cX9_go 150 = .ok (.invokevirtual 252, 3) := by decide +kernel
theorem dX9_go_153 : decode cX9_go 153 = .ok (.iinc 2 1, 3) := by decide +kernel
theorem dX9_go_156 : decode cX9_go 156 = .ok (.goto (-16), 3) := by decide +kernel
theorem dX9_go_159 : decode cX9_go 159 = .ok (.return_, 1) := by decide +kernel
theorem dX9_heightBy_0 : decode cX9_heightBy 0 = .ok (.iconst 0, 1) := by decide +kernel
theorem dX9_heightBy_1 : decode cX9_heightBy 1 = .ok (.istore_n 3, 1) := by decide +kernel
theorem dX9_heightBy_2 : decode cX9_heightBy 2 = .ok (.iconst 0, 1) := by decide +kernel
theorem dX9_heightBy_3 : decode cX9_heightBy 3 = .ok (.istore 4, 2) := by decide +kernel
theorem dX9_heightBy_5 : decode cX9_heightBy 5 = .ok (.iconst 0, 1) := by decide +kernel
theorem dX9_heightBy_6 : decode cX9_heightBy 6 = .ok (.istore 5, 2) := by decide +kernel
theorem dX9_heightBy_8 : decode cX9_heightBy 8 = .ok (.iload 5, 2) := by decide +kernel
theorem dX9_heightBy_10 : decode cX9_heightBy 10 = .ok (.iload_n 2, 1) := by decide +kernel
theorem dX9_heightBy_11 : decode cX9_heightBy 11 = .ok (.if_icmp .ge 26, 3) := by decide +kernel
theorem dX9_heightBy_14 : decode cX9_heightBy 14 = .ok (.iload 4, 2) := by decide +kernel
theorem dX9_heightBy_16 : decode cX9_heightBy 16 = .ok (.aload_n 1, 1) := by decide +kernel
theorem dX9_heightBy_17 : decode cX9_heightBy 17 = .ok (.bipush 24, 2) := by decide +kernel
theorem dX9_heightBy_19 : decode cX9_heightBy 19 = .ok (.iload 5, 2) := by decide +kernel
theorem dX9_heightBy_21 : decode cX9_heightBy 21 = .ok (.iadd, 1) := by decide +kernel
theorem dX9_heightBy_22 : decode cX9_heightBy 22 = .ok (.iaload, 1) := by decide +kernel
theorem dX9_heightBy_23 : decode cX9_heightBy 23 = .ok (.iadd, 1) := by decide +kernel
theorem dX9_heightBy_24 : decode cX9_heightBy 24 = .ok (.istore 4, 2) := by decide +kernel
theorem dX9_heightBy_26 : decode cX9_heightBy 26 = .ok (.iload_n 3, 1) := by decide +kernel
theorem dX9_heightBy_27 : decode cX9_heightBy 27 = .ok (.iload 4, 2) := by decide +kernel
theorem dX9_heightBy_29 : decode cX9_heightBy 29 = .ok (.iadd, 1) := by decide +kernel
theorem dX9_heightBy_30 : decode cX9_heightBy 30 = .ok (.istore_n 3, 1) := by decide +kernel
theorem dX9_heightBy_31 : decode cX9_heightBy 31 = .ok (.iinc 5 1, 3) := by decide +kernel
theorem dX9_heightBy_34 : decode cX9_heightBy 34 = .ok (.goto (-26), 3) := by decide +kernel
theorem dX9_heightBy_37 : decode cX9_heightBy 37 = .ok (.iload_n 3, 1) := by decide +kernel
theorem dX9_heightBy_38 : decode cX9_heightBy 38 = .ok (.ireturn, 1) := by decide +kernel
theorem dX9_offBy_0 : decode cX9_offBy 0 = .ok (.aload_n 0, 1) := by decide +kernel
theorem dX9_offBy_1 : decode cX9_offBy 1 = .ok (.aload_n 0, 1) := by decide +kernel
theorem dX9_offBy_2 : decode cX9_offBy 2 = .ok (.getfield 46, 3) := by decide +kernel
theorem dX9_offBy_5 : decode cX9_offBy 5 = .ok (.aload_n 0, 1) := by decide +kernel
theorem dX9_offBy_6 : decode cX9_offBy 6 = .ok (.getfield 212, 3) := by decide +kernel
theorem dX9_offBy_9 : decode cX9_offBy 9 = .ok (.invokevirtual 266, 3) := by decide +kernel
theorem dX9_offBy_12 : decode cX9_offBy 12 = .ok (.istore_n 1, 1) := by decide +kernel
theorem dX9_offBy_13 : decode cX9_offBy 13 = .ok (.iconst 0, 1) := by decide +kernel
theorem dX9_offBy_14 : decode cX9_offBy 14 = .ok (.istore_n 2, 1) := by decide +kernel
theorem dX9_offBy_15 : decode cX9_offBy 15 = .ok (.iconst 0, 1) := by decide +kernel
theorem dX9_offBy_16 : decode cX9_offBy 16 = .ok (.istore_n 3, 1) := by decide +kernel
theorem dX9_offBy_17 : decode cX9_offBy 17 = .ok (.iload_n 3, 1) := by decide +kernel
theorem dX9_offBy_18 : decode cX9_offBy 18 = .ok (.aload_n 0, 1) := by decide +kernel
theorem dX9_offBy_19 : decode cX9_offBy 19 = .ok (.getfield 212, 3) := by decide +kernel
theorem dX9_offBy_22 : decode cX9_offBy 22 = .ok (.if_icmp .gt 57, 3) := by decide +kernel
theorem dX9_offBy_25 : decode cX9_offBy 25 = .ok (.aload_n 0, 1) := by decide +kernel
theorem dX9_offBy_26 : decode cX9_offBy 26 = .ok (.getfield 212, 3) := by decide +kernel
theorem dX9_offBy_29 : decode cX9_offBy 29 = .ok (.aload_n 0, 1) := by decide +kernel
theorem dX9_offBy_30 : decode cX9_offBy 30 = .ok (.aload_n 0, 1) := by decide +kernel
theorem dX9_offBy_31 : decode cX9_offBy 31 = .ok (.getfield 46, 3) := by decide +kernel
theorem dX9_offBy_34 : decode cX9_offBy 34 = .ok (.iload_n 3, 1) := by decide +kernel
theorem dX9_offBy_35 : decode cX9_offBy 35 = .ok (.invokevirtual 266, 3) := by decide +kernel
theorem dX9_offBy_38 : decode cX9_offBy 38 = .ok (.imul, 1) := by decide +kernel
theorem dX9_offBy_39 : decode cX9_offBy 39 = .ok (.iload_n 3, 1) := by decide +kernel
theorem dX9_offBy_40 : decode cX9_offBy 40 = .ok (.iload_n 1, 1) := by decide +kernel
theorem dX9_offBy_41 : decode cX9_offBy 41 = .ok (.imul, 1) := by decide +kernel
theorem dX9_offBy_42 : decode cX9_offBy 42 = .ok (.isub, 1) := by decide +kernel
theorem dX9_offBy_43 : decode cX9_offBy 43 = .ok (.istore 4, 2) := by decide +kernel
theorem dX9_offBy_45 : decode cX9_offBy 45 = .ok (.iload 4, 2) := by decide +kernel
theorem dX9_offBy_47 : decode cX9_offBy 47 = .ok (.ifCond .ge 9, 3) := by decide +kernel
theorem dX9_offBy_50 : decode cX9_offBy 50 = .ok (.iload 4, 2) := by decide +kernel
theorem dX9_offBy_52 : decode cX9_offBy 52 = .ok (.ineg, 1) := by decide +kernel
theorem dX9_offBy_53 : decode cX9_offBy 53 = .ok (.goto 5, 3) := by decide +kernel
theorem dX9_offBy_56 : decode cX9_offBy 56 = .ok (.iload 4, 2) := by decide +kernel
theorem dX9_offBy_58 : decode cX9_offBy 58 = .ok (.istore 4, 2) := by decide +kernel
theorem dX9_offBy_60 : decode cX9_offBy 60 = .ok (.iload 4, 2) := by decide +kernel
theorem dX9_offBy_62 : decode cX9_offBy 62 = .ok (.iload_n 2, 1) := by decide +kernel
theorem dX9_offBy_63 : decode cX9_offBy 63 = .ok (.if_icmp .le 8, 3) := by decide +kernel
theorem dX9_offBy_66 : decode cX9_offBy 66 = .ok (.iload 4, 2) := by decide +kernel
theorem dX9_offBy_68 : decode cX9_offBy 68 = .ok (.goto 4, 3) := by decide +kernel
theorem dX9_offBy_71 : decode cX9_offBy 71 = .ok (.iload_n 2, 1) := by decide +kernel
theorem dX9_offBy_72 : decode cX9_offBy 72 = .ok (.istore_n 2, 1) := by decide +kernel
theorem dX9_offBy_73 : decode cX9_offBy 73 = .ok (.iinc 3 1, 3) := by decide +kernel
theorem dX9_offBy_76 : decode cX9_offBy 76 = .ok (.goto (-59), 3) := by decide +kernel
theorem dX9_offBy_79 : decode cX9_offBy 79 = .ok (.iload_n 2, 1) := by decide +kernel
theorem dX9_offBy_80 : decode cX9_offBy 80 = .ok (.aload_n 0, 1) := by decide +kernel
theorem dX9_offBy_81 : decode cX9_offBy 81 = .ok (.getfield 212, 3) := by decide +kernel
theorem dX9_offBy_84 : decode cX9_offBy 84 = .ok (.idiv, 1) := by decide +kernel
theorem dX9_offBy_85 : decode cX9_offBy 85 = .ok (.ireturn, 1) := by decide +kernel
theorem dX9_layOpened_0 : decode cX9_layOpened 0 = .ok (.iconst 0, 1) := by decide +kernel
theorem dX9_layOpened_1 : decode cX9_layOpened 1 = .ok (.istore_n 1, 1) := by decide +kernel
theorem dX9_layOpened_2 : decode cX9_layOpened 2 = .ok (.iload_n 1, 1) := by decide +kernel
theorem dX9_layOpened_3 : decode cX9_layOpened 3 = .ok (.bipush 12, 2) := by decide +kernel
theorem dX9_layOpened_5 : decode cX9_layOpened 5 = .ok (.if_icmp .ge 21, 3) := by decide +kernel
theorem dX9_layOpened_8 : decode cX9_layOpened 8 = .ok (.aload_n 0, 1) := by decide +kernel
theorem dX9_layOpened_9 : decode cX9_layOpened 9 = .ok (.getfield 59, 3) := by decide +kernel
theorem dX9_layOpened_12 : decode cX9_layOpened 12 = .ok (.iload_n 1, 1) := by decide +kernel
theorem dX9_layOpened_13 : decode cX9_layOpened 13 = .ok (.aload_n 0, 1) := by decide +kernel
theorem dX9_layOpened_14 : decode cX9_layOpened 14 = .ok (.getfield 40, 3) := by decide +kernel
theorem dX9_layOpened_17 : decode cX9_layOpened 17 = .ok (.iload_n 1, 1) := by decide +kernel
theorem dX9_layOpened_18 : decode cX9_layOpened 18 = .ok (.iaload, 1) := by decide +kernel
theorem dX9_layOpened_19 : decode cX9_layOpened 19 = .ok (.iastore, 1) := by decide +kernel
theorem dX9_layOpened_20 : decode cX9_layOpened 20 = .ok (.iinc 1 1, 3) := by decide +kernel
theorem dX9_layOpened_23 : decode cX9_layOpened 23 = .ok (.goto (-21), 3) := by decide +kernel
theorem dX9_layOpened_26 : decode cX9_layOpened 26 = .ok (.return_, 1) := by decide +kernel
theorem dX9_stand_0 : decode cX9_stand 0 = .ok (.iconst 0, 1) := by decide +kernel
theorem dX9_stand_1 : decode cX9_stand 1 = .ok (.istore_n 1, 1) := by decide +kernel
theorem dX9_stand_2 : decode cX9_stand 2 = .ok (.iload_n 1, 1) := by decide +kernel
theorem dX9_stand_3 : decode cX9_stand 3 = .ok (.bipush 48, 2) := by decide +kernel
theorem dX9_stand_5 : decode cX9_stand 5 = .ok (.if_icmp .ge 21, 3) := by decide +kernel
theorem dX9_stand_8 : decode cX9_stand 8 = .ok (.aload_n 0, 1) := by decide +kernel
theorem dX9_stand_9 : decode cX9_stand 9 = .ok (.getfield 56, 3) := by decide +kernel
theorem dX9_stand_12 : decode cX9_stand 12 = .ok (.iload_n 1, 1) := by decide +kernel
theorem dX9_stand_13 : decode cX9_stand 13 = .ok (.aload_n 0, 1) := by decide +kernel
theorem dX9_stand_14 : decode cX9_stand 14 = .ok (.getfield 46, 3) := by decide +kernel
theorem dX9_stand_17 : decode cX9_stand 17 = .ok (.iload_n 1, 1) := by decide +kernel
theorem dX9_stand_18 : decode cX9_stand 18 = .ok (.iaload, 1) := by decide +kernel
theorem dX9_stand_19 : decode cX9_stand 19 = .ok (.iastore, 1) := by decide +kernel
theorem dX9_stand_20 : decode cX9_stand 20 = .ok (.iinc 1 1, 3) := by decide +kernel
theorem dX9_stand_23 : decode cX9_stand 23 = .ok (.goto (-21), 3) := by decide +kernel
theorem dX9_stand_26 : decode cX9_stand 26 = .ok (.aload_n 0, 1) := by decide +kernel
theorem dX9_stand_27 : decode cX9_stand 27 = .ok (.aload_n 0, 1) := by decide +kernel
theorem dX9_stand_28 : decode cX9_stand 28 = .ok (.getfield 240, 3) := by decide +kernel
theorem dX9_stand_31 : decode cX9_stand 31 = .ok (.putfield 270, 3) := by decide +kernel
theorem dX9_stand_34 : decode cX9_stand 34 = .ok (.aload_n 0, 1) := by decide +kernel
theorem dX9_stand_35 : decode cX9_stand 35 = .ok (.iconst 1, 1) := by decide +kernel
theorem dX9_stand_36 : decode cX9_stand 36 = .ok (.putfield 224, 3) := by decide +kernel
theorem dX9_stand_39 : decode cX9_stand 39 = .ok (.iconst 0, 1) := by decide +kernel
theorem dX9_stand_40 : decode cX9_stand 40 = .ok (.istore_n 1, 1) := by decide +kernel
theorem dX9_stand_41 : decode cX9_stand 41 = .ok (.iload_n 1, 1) := by decide +kernel
theorem dX9_stand_42 : decode cX9_stand 42 = .ok (.bipush 6, 2) := by decide +kernel
theorem dX9_stand_44 : decode cX9_stand 44 = .ok (.if_icmp .ge 21, 3) := by decide +kernel
theorem dX9_stand_47 : decode cX9_stand 47 = .ok (.aload_n 0, 1) := by decide +kernel
theorem dX9_stand_48 : decode cX9_stand 48 = .ok (.getfield 43, 3) := by decide +kernel
theorem dX9_stand_51 : decode cX9_stand 51 = .ok (.iload_n 1, 1) := by decide +kernel
theorem dX9_stand_52 : decode cX9_stand 52 = .ok (.aload_n 0, 1) := by decide +kernel
theorem dX9_stand_53 : decode cX9_stand 53 = .ok (.getfield 62, 3) := by decide +kernel
theorem dX9_stand_56 : decode cX9_stand 56 = .ok (.iload_n 1, 1) := by decide +kernel
theorem dX9_stand_57 : decode cX9_stand 57 = .ok (.iaload, 1) := by decide +kernel
theorem dX9_stand_58 : decode cX9_stand 58 = .ok (.iastore, 1) := by decide +kernel
theorem dX9_stand_59 : decode cX9_stand 59 = .ok (.iinc 1 1, 3) := by decide +kernel
theorem dX9_stand_62 : decode cX9_stand 62 = .ok (.goto (-21), 3) := by decide +kernel
theorem dX9_stand_65 : decode cX9_stand 65 = .ok (.return_, 1) := by decide +kernel
theorem dX9_run_0 : decode cX9_run 0 = .ok (.aload_n 0, 1) := by decide +kernel
theorem dX9_run_1 : decode cX9_run 1 = .ok (.iconst 0, 1) := by decide +kernel
theorem dX9_run_2 : decode cX9_run 2 = .ok (.putfield 71, 3) := by decide +kernel
theorem dX9_run_5 : decode cX9_run 5 = .ok (.iload_n 1, 1) := by decide +kernel
theorem dX9_run_6 : decode cX9_run 6 = .ok (.invokestatic 85, 3) := by decide +kernel
theorem dX9_run_9 : decode cX9_run 9 = .ok (.ifCond .ne 6, 3) := by decide +kernel
theorem dX9_run_12 : decode cX9_run 12 = .ok (.ldc 91, 2) := by decide +kernel
theorem dX9_run_14 : decode cX9_run 14 = .ok (.ireturn, 1) := by decide +kernel
theorem dX9_run_15 : decode cX9_run 15 = .ok (.aload_n 0, 1) := by decide +kernel
theorem dX9_run_16 : decode cX9_run 16 = .ok (.getfield 212, 3) := by decide +kernel
theorem dX9_run_19 : decode cX9_run 19 = .ok (.ifCond .ne 7, 3) := by decide +kernel
theorem dX9_run_22 : decode cX9_run 22 = .ok (.ldc_w 273, 3) := by decide +kernel
theorem dX9_run_25 : decode cX9_run 25 = .ok (.ireturn, 1) := by decide +kernel
theorem dX9_run_26 : decode cX9_run 26 = .ok (.aload_n 0, 1) := by decide +kernel
theorem dX9_run_27 : decode cX9_run 27 = .ok (.getfield 7, 3) := by decide +kernel
theorem dX9_run_30 : decode cX9_run 30 = .ok (.iload_n 1, 1) := by decide +kernel
theorem dX9_run_31 : decode cX9_run 31 = .ok (.iaload, 1) := by decide +kernel
theorem dX9_run_32 : decode cX9_run 32 = .ok (.ifCond .ge 9, 3) := by decide +kernel
theorem dX9_run_35 : decode cX9_run 35 = .ok (.aload_n 0, 1) := by decide +kernel
theorem dX9_run_36 : decode cX9_run 36 = .ok (.iconst 1, 1) := by decide +kernel
theorem dX9_run_37 : decode cX9_run 37 = .ok (.invokevirtual 92, 3) := by decide +kernel
theorem dX9_run_40 : decode cX9_run 40 = .ok (.ireturn, 1) := by decide +kernel
theorem dX9_run_41 : decode cX9_run 41 = .ok (.iload_n 2, 1) := by decide +kernel
theorem dX9_run_42 : decode cX9_run 42 = .ok (.ifCond .lt 22, 3) := by decide +kernel
theorem dX9_run_45 : decode cX9_run 45 = .ok (.iload_n 2, 1) := by decide +kernel
theorem dX9_run_46 : decode cX9_run 46 = .ok (.i2l, 1) := by decide +kernel
theorem dX9_run_47 : decode cX9_run 47 = .ok (.aload_n 0, 1) := by decide +kernel
theorem dX9_run_48 : decode cX9_run 48 = .ok (.getfield 215, 3) := by decide +kernel
theorem dX9_run_51 : decode cX9_run 51 = .ok (.i2l, 1) := by decide +kernel
theorem dX9_run_52 : decode cX9_run 52 = .ok (.ladd, 1) := by decide +kernel
theorem dX9_run_53 : decode cX9_run 53 = .ok (.aload_n 0, 1) := by decide +kernel
theorem dX9_run_54 : decode cX9_run 54 = .ok (.getfield 13, 3) := by decide +kernel
theorem dX9_run_57 : decode cX9_run 57 = .ok (.iload_n 1, 1) := by decide +kernel
theorem dX9_run_58 : decode cX9_run 58 = .ok (.iaload, 1) := by decide +kernel
theorem dX9_run_59 : decode cX9_run 59 = .ok (.i2l, 1) := by decide +kernel
theorem dX9_run_60 : decode cX9_run 60 = .ok (.lcmp, 1) := by decide +kernel
theorem dX9_run_61 : decode cX9_run 61 = .ok (.ifCond .le 9, 3) := by decide +kernel
theorem dX9_run_64 : decode cX9_run 64 = .ok (.aload_n 0, 1) := by decide +kernel
theorem dX9_run_65 : decode cX9_run 65 = .ok (.iconst 2, 1) := by decide +kernel
theorem dX9_run_66 : decode cX9_run 66 = .ok (.invokevirtual 92, 3) := by decide +kernel
theorem dX9_run_69 : decode cX9_run 69 = .ok (.ireturn, 1) := by decide +kernel
theorem dX9_run_70 : decode cX9_run 70 = .ok (.iconst 0, 1) := by decide +kernel
theorem dX9_run_71 : decode cX9_run 71 = .ok (.istore_n 3, 1) := by decide +kernel
theorem dX9_run_72 : decode cX9_run 72 = .ok (.iconst 0, 1) := by decide +kernel
theorem dX9_run_73 : decode cX9_run 73 = .ok (.istore 4, 2) := by decide +kernel
theorem dX9_run_75 : decode cX9_run 75 = .ok (.iload 4, 2) := by decide +kernel
theorem dX9_run_77 : decode cX9_run 77 = .ok (.aload_n 0, 1) := by decide +kernel
theorem dX9_run_78 : decode cX9_run 78 = .ok (.getfield 215, 3) := by decide +kernel
theorem dX9_run_81 : decode cX9_run 81 = .ok (.if_icmp .ge 62, 3) := by decide +kernel
theorem dX9_run_84 : decode cX9_run 84 = .ok (.aload_n 0, 1) := by decide +kernel
theorem dX9_run_85 : decode cX9_run 85 = .ok (.getfield 16, 3) := by decide +kernel
theorem dX9_run_88 : decode cX9_run 88 = .ok (.bipush 40, 2) := by decide +kernel
theorem dX9_run_90 : decode cX9_run 90 = .ok (.iload_n 1, 1) := by decide +kernel
theorem dX9_run_91 : decode cX9_run 91 = .ok (.imul, 1) := by decide +kernel
theorem dX9_run_92 : decode cX9_run 92 = .ok (.iload_n 2, 1) := by decide +kernel
theorem dX9_run_93 : decode cX9_run 93 = .ok (.iadd, 1) := by decide +kernel
theorem dX9_run_94 : decode cX9_run 94 = .ok (.iload 4, 2) := by decide +kernel
theorem dX9_run_96 : decode cX9_run 96 = .ok (.iadd, 1) := by decide +kernel
theorem dX9_run_97 : decode cX9_run 97 = .ok (.iaload, 1) := by decide +kernel
theorem dX9_run_98 : decode cX9_run 98 = .ok (.istore 5, 2) := by decide +kernel
theorem dX9_run_100 : decode cX9_run 100 = .ok (.iload 5, 2) := by decide +kernel
theorem dX9_run_102 : decode cX9_run 102 = .ok (.i2l, 1) := by decide +kernel
theorem dX9_run_103 : decode cX9_run 103 = .ok (.lconst 0, 1) := by decide +kernel
theorem dX9_run_104 : decode cX9_run 104 = .ok (.aload_n 0, 1) := by decide +kernel
theorem dX9_run_105 : decode cX9_run 105 = .ok (.getfield 215, 3) := by decide +kernel
theorem dX9_run_108 : decode cX9_run 108 = .ok (.iconst 1, 1) := by decide +kernel
theorem dX9_run_109 : decode cX9_run 109 = .ok (.isub, 1) := by decide +kernel
theorem dX9_run_110 : decode cX9_run 110 = .ok (.i2l, 1) := by decide +kernel
theorem dX9_run_111 : decode cX9_run 111 = .ok (.invokestatic 81, 3) := by decide +kernel
theorem dX9_run_114 : decode cX9_run 114 = .ok (.ifCond .eq 13, 3) := by decide +kernel
theorem dX9_run_117 : decode cX9_run 117 = .ok (.iload_n 3, 1) := by decide +kernel
theorem dX9_run_118 : decode cX9_run 118 = .ok (.iload 5, 2) := by decide +kernel
theorem dX9_run_120 : decode cX9_run 120 = .ok (.ishr, 1) := by decide +kernel
theorem dX9_run_121 : decode cX9_run 121 = .ok (.iconst 1, 1) := by decide +kernel
theorem dX9_run_122 : decode cX9_run 122 = .ok (.iand, 1) := by decide +kernel
theorem dX9_run_123 : decode cX9_run 123 = .ok (.iconst 1, 1) := by decide +kernel
theorem dX9_run_124 : decode cX9_run 124 = .ok (.if_icmp .ne 6, 3) := by decide +kernel
theorem dX9_run_127 : decode cX9_run 127 = .ok (.ldc 91, 2) := by decide +kernel
theorem dX9_run_129 : decode cX9_run 129 = .ok (.ireturn, 1) := by decide +kernel
theorem dX9_run_130 : decode cX9_run 130 = .ok (.iload_n 3, 1) := by decide +kernel
theorem dX9_run_131 : decode cX9_run 131 = .ok (.iconst 1, 1) := by decide +kernel
theorem dX9_run_132 : decode cX9_run 132 = .ok (.iload 5, 2) := by decide +kernel
theorem dX9_run_134 : decode cX9_run 134 = .ok (.ishl, 1) := by decide +kernel
theorem dX9_run_135 : decode cX9_run 135 = .ok (.ior, 1) := by decide +kernel
theorem dX9_run_136 : decode cX9_run 136 = .ok (.istore_n 3, 1) := by decide +kernel
theorem dX9_run_137 : decode cX9_run 137 = .ok (.iinc 4 1, 3) := by decide +kernel
theorem dX9_run_140 : decode cX9_run 140 = .ok (.goto (-65), 3) := by decide +kernel
theorem dX9_run_143 : decode cX9_run 143 = .ok (.aload_n 0, 1) := by decide +kernel
theorem dX9_run_144 : decode cX9_run 144 = .ok (.iconst 0, 1) := by decide +kernel
theorem dX9_run_145 : decode cX9_run 145 = .ok (.putfield 75, 3) := by decide +kernel
theorem dX9_run_148 : decode cX9_run 148 = .ok (.iconst 0, 1) := by decide +kernel
theorem dX9_run_149 : decode cX9_run 149 = .ok (.istore 4, 2) := by decide +kernel
theorem dX9_run_151 : decode cX9_run 151 = .ok (.iload 4, 2) := by decide +kernel
theorem dX9_run_153 : decode cX9_run 153 = .ok (.bipush 6, 2) := by decide +kernel
theorem dX9_run_155 : decode cX9_run 155 = .ok (.if_icmp .ge 44, 3) := by decide +kernel
theorem dX9_run_158 : decode cX9_run 158 = .ok (.aload_n 0, 1) := by decide +kernel
theorem dX9_run_159 : decode cX9_run 159 = .ok (.getfield 62, 3) := by decide +kernel
theorem dX9_run_162 : decode cX9_run 162 = .ok (.iload 4, 2) := by decide +kernel
theorem dX9_run_164 : decode cX9_run 164 = .ok (.iload 4, 2) := by decide +kernel
theorem dX9_run_166 : decode cX9_run 166 = .ok (.aload_n 0, 1) := by decide +kernel
theorem dX9_run_167 : decode cX9_run 167 = .ok (.getfield 215, 3) := by decide +kernel
theorem dX9_run_170 : decode cX9_run 170 = .ok (.if_icmp .ge 20, 3) := by decide +kernel
theorem dX9_run_173 : decode cX9_run 173 = .ok (.aload_n 0, 1) := by decide +kernel
theorem dX9_run_174 : decode cX9_run 174 = .ok (.getfield 16, 3) := by decide +kernel
theorem dX9_run_177 : decode cX9_run 177 = .ok (.bipush 40, 2) := by decide +kernel
theorem dX9_run_179 : decode cX9_run 179 = .ok (.iload_n 1, 1) := by decide +kernel
theorem dX9_run_180 : decode cX9_run 180 = .ok (.imul, 1) := by decide +kernel
theorem dX9_run_181 : decode cX9_run 181 = .ok (.iload_n 2, 1) := by decide +kernel
theorem dX9_run_182 : decode cX9_run 182 = .ok (.iadd, 1) := by decide +kernel
theorem dX9_run_183 : decode cX9_run 183 = .ok (.iload 4, 2) := by decide +kernel
theorem dX9_run_185 : decode cX9_run 185 = .ok (.iadd, 1) := by decide +kernel
theorem dX9_run_186 : decode cX9_run 186 = .ok (.iaload, 1) := by decide +kernel
theorem dX9_run_187 : decode cX9_run 187 = .ok (.goto 5, 3) := by decide +kernel
theorem dX9_run_190 : decode cX9_run 190 = .ok (.iload 4, 2) := by decide +kernel
theorem dX9_run_192 : decode cX9_run 192 = .ok (.iastore, 1) := by decide +kernel
theorem dX9_run_193 : decode cX9_run 193 = .ok (.iinc 4 1, 3) := by decide +kernel
theorem dX9_run_196 : decode cX9_run 196 = .ok (.goto (-45), 3) := by decide +kernel
theorem dX9_run_199 : decode cX9_run 199 = .ok (.aload_n 0, 1) := by decide +kernel
theorem dX9_run_200 : decode cX9_run 200 = .ok (.invokevirtual 274, 3) := by decide +kernel
theorem dX9_run_203 : decode cX9_run 203 = .ok (.aload_n 0, 1) := by decide +kernel
theorem dX9_run_204 : decode cX9_run 204 = .ok (.ldc 107, 2) := by decide +kernel
theorem dX9_run_206 : decode cX9_run 206 = .ok (.invokevirtual 277, 3) := by decide +kernel
theorem dX9_run_209 : decode cX9_run 209 = .ok (.aload_n 0, 1) := by decide +kernel
theorem dX9_run_210 : decode cX9_run 210 = .ok (.invokevirtual 280, 3) := by decide +kernel
theorem dX9_run_213 : decode cX9_run 213 = .ok (.aload_n 0, 1) := by decide +kernel
theorem dX9_run_214 : decode cX9_run 214 = .ok (.invokevirtual 283, 3) := by decide +kernel
theorem dX9_run_217 : decode cX9_run 217 = .ok (.ireturn, 1) := by decide +kernel
theorem dX9_layNumbers_0 : decode cX9_layNumbers 0 = .ok (.iconst 0, 1) := by decide +kernel
theorem dX9_layNumbers_1 : decode cX9_layNumbers 1 = .ok (.istore_n 1, 1) := by decide +kernel
theorem dX9_layNumbers_2 : decode cX9_layNumbers 2 = .ok (.iload_n 1, 1) := by decide +kernel
theorem dX9_layNumbers_3 : decode cX9_layNumbers 3 = .ok (.bipush 6, 2) := by decide +kernel
theorem dX9_layNumbers_5 : decode cX9_layNumbers 5 = .ok (.if_icmp .ge 16, 3) := by decide +kernel
theorem dX9_layNumbers_8 : decode cX9_layNumbers 8 = .ok (.aload_n 0, 1) := by decide +kernel
theorem dX9_layNumbers_9 : decode cX9_layNumbers 9 = .ok (.getfield 62, 3) := by decide +kernel
theorem dX9_layNumbers_12 : decode cX9_layNumbers 12 = .ok (.iload_n 1, 1) := by decide +kernel
theorem dX9_layNumbers_13 : decode cX9_layNumbers 13 = .ok (.iload_n 1, 1) := by decide +kernel
theorem dX9_layNumbers_14 : decode cX9_layNumbers 14 = .ok (.iastore, 1) := by decide +kernel
theorem dX9_layNumbers_15 : decode cX9_layNumbers 15 = .ok (.iinc 1 1, 3) := by decide +kernel
theorem dX9_layNumbers_18 : decode cX9_layNumbers 18 = .ok (.goto (-16), 3) := by decide +kernel
theorem dX9_layNumbers_21 : decode cX9_layNumbers 21 = .ok (.return_, 1) := by decide +kernel
theorem dX9_runs_0 : decode cX9_runs 0 = .ok (.aload_n 0, 1) := by decide +kernel
theorem dX9_runs_1 : decode cX9_runs 1 = .ok (.iconst 0, 1) := by decide +kernel
theorem dX9_runs_2 : decode cX9_runs 2 = .ok (.putfield 71, 3) := by decide +kernel
theorem dX9_runs_5 : decode cX9_runs 5 = .ok (.aload_n 0, 1) := by decide +kernel
theorem dX9_runs_6 : decode cX9_runs 6 = .ok (.getfield 212, 3) := by decide +kernel
theorem dX9_runs_9 : decode cX9_runs 9 = .ok (.ifCond .ne 7, 3) := by decide +kernel
theorem dX9_runs_12 : decode cX9_runs 12 = .ok (.ldc_w 273, 3) := by decide +kernel
theorem dX9_runs_15 : decode cX9_runs 15 = .ok (.ireturn, 1) := by decide +kernel
theorem dX9_runs_16 : decode cX9_runs 16 = .ok (.aload_n 0, 1) := by decide +kernel
theorem dX9_runs_17 : decode cX9_runs 17 = .ok (.invokevirtual 286, 3) := by decide +kernel
theorem dX9_runs_20 : decode cX9_runs 20 = .ok (.aload_n 0, 1) := by decide +kernel
theorem dX9_runs_21 : decode cX9_runs 21 = .ok (.invokevirtual 274, 3) := by decide +kernel
theorem dX9_runs_24 : decode cX9_runs 24 = .ok (.aload_n 0, 1) := by decide +kernel
theorem dX9_runs_25 : decode cX9_runs 25 = .ok (.ldc 107, 2) := by decide +kernel
theorem dX9_runs_27 : decode cX9_runs 27 = .ok (.invokevirtual 277, 3) := by decide +kernel
theorem dX9_runs_30 : decode cX9_runs 30 = .ok (.aload_n 0, 1) := by decide +kernel
theorem dX9_runs_31 : decode cX9_runs 31 = .ok (.invokevirtual 280, 3) := by decide +kernel
theorem dX9_runs_34 : decode cX9_runs 34 = .ok (.aload_n 0, 1) := by decide +kernel
theorem dX9_runs_35 : decode cX9_runs 35 = .ok (.invokevirtual 283, 3) := by decide +kernel
theorem dX9_runs_38 : decode cX9_runs 38 = .ok (.ireturn, 1) := by decide +kernel
theorem dX9_layStanding_0 : decode cX9_layStanding 0 = .ok (.iconst 0, 1) := by decide +kernel
theorem dX9_layStanding_1 : decode cX9_layStanding 1 = .ok (.istore_n 1, 1) := by decide +kernel
theorem dX9_layStanding_2 : decode cX9_layStanding 2 = .ok (.iload_n 1, 1) := by decide +kernel
theorem dX9_layStanding_3 : decode cX9_layStanding 3 = .ok (.bipush 48, 2) := by decide +kernel
theorem dX9_layStanding_5 : decode cX9_layStanding 5 = .ok (.if_icmp .ge 58, 3) := by decide +kernel
theorem dX9_layStanding_8 : decode cX9_layStanding 8 = .ok (.aload_n 0, 1) := by decide +kernel
theorem dX9_layStanding_9 : decode cX9_layStanding 9 = .ok (.getfield 46, 3) := by decide +kernel
theorem dX9_layStanding_12 : decode cX9_layStanding 12 = .ok (.iload_n 1, 1) := by decide +kernel
theorem dX9_layStanding_13 : decode cX9_layStanding 13 = .ok (.aload_n 0, 1) := by decide +kernel
theorem dX9_layStanding_14 : decode cX9_layStanding 14 = .ok (.getfield 224, 3) := by decide +kernel
theorem dX9_layStanding_17 : decode cX9_layStanding 17 = .ok (.ifCond .eq 12, 3) := by decide +kernel
theorem dX9_layStanding_20 : decode cX9_layStanding 20 = .ok (.aload_n 0, 1) := by decide +kernel
theorem dX9_layStanding_21 : decode cX9_layStanding 21 = .ok (.getfield 56, 3) := by decide +kernel
theorem dX9_layStanding_24 : decode cX9_layStanding 24 = .ok (.iload_n 1, 1) := by decide +kernel
theorem dX9_layStanding_25 : decode cX9_layStanding 25 = .ok (.iaload, 1) := by decide +kernel
theorem dX9_layStanding_26 : decode cX9_layStanding 26 = .ok (.goto 30, 3) := by decide +kernel
theorem dX9_layStanding_29 : decode cX9_layStanding 29 = .ok (.iload_n 1, 1) := by decide +kernel
theorem dX9_layStanding_30 : decode cX9_layStanding 30 = .ok (.i2l, 1) := by decide +kernel
theorem dX9_layStanding_31 : decode cX9_layStanding 31 = .ok (.ldc2_w 259, 3) := by decide +kernel
theorem dX9_layStanding_34 : decode cX9_layStanding 34 = .ok (.ldc2_w 261, 3) := by decide +kernel
theorem dX9_layStanding_37 : decode cX9_layStanding 37 = .ok (.invokestatic 81, 3) := by decide +kernel
theorem dX9_layStanding_40 : decode cX9_layStanding 40 = .ok (.ifCond .eq 15, 3) := by decide +kernel
theorem dX9_layStanding_43 : decode cX9_layStanding 43 = .ok (.aload_n 0, 1) := by decide +kernel
theorem dX9_layStanding_44 : decode cX9_layStanding 44 = .ok (.getfield 40, 3) := by decide +kernel
theorem dX9_layStanding_47 : decode cX9_layStanding 47 = .ok (.iload_n 1, 1) := by decide +kernel
theorem dX9_layStanding_48 : decode cX9_layStanding 48 = .ok (.bipush 24, 2) := by decide +kernel
theorem dX9_layStanding_50 : decode cX9_layStanding 50 = .ok (.isub, 1) := by decide +kernel
theorem dX9_layStanding_51 : decode cX9_layStanding 51 = .ok (.iaload, 1) := by decide +kernel
theorem dX9_layStanding_52 : decode cX9_layStanding 52 = .ok (.goto 4, 3) := by decide +kernel
theorem dX9_layStanding_55 : decode cX9_layStanding 55 = .ok (.iconst 0, 1) := by decide +kernel
theorem dX9_layStanding_56 : decode cX9_layStanding 56 = .ok (.iastore, 1) := by decide +kernel
theorem dX9_layStanding_57 : decode cX9_layStanding 57 = .ok (.iinc 1 1, 3) := by decide +kernel
theorem dX9_layStanding_60 : decode cX9_layStanding 60 = .ok (.goto (-58), 3) := by decide +kernel
theorem dX9_layStanding_63 : decode cX9_layStanding 63 = .ok (.return_, 1) := by decide +kernel
theorem dX9_cell_0 : decode cX9_cell 0 = .ok (.aload_n 0, 1) := by decide +kernel
theorem dX9_cell_1 : decode cX9_cell 1 = .ok (.iconst 0, 1) := by decide +kernel
theorem dX9_cell_2 : decode cX9_cell 2 = .ok (.putfield 71, 3) := by decide +kernel
theorem dX9_cell_5 : decode cX9_cell 5 = .ok (.aload_n 0, 1) := by decide +kernel
theorem dX9_cell_6 : decode cX9_cell 6 = .ok (.iload_n 1, 1) := by decide +kernel
theorem dX9_cell_7 : decode cX9_cell 7 = .ok (.invokevirtual 233, 3) := by decide +kernel
theorem dX9_cell_10 : decode cX9_cell 10 = .ok (.ifCond .eq 15, 3) := by decide +kernel
theorem dX9_cell_13 : decode cX9_cell 13 = .ok (.iload_n 2, 1) := by decide +kernel
theorem dX9_cell_14 : decode cX9_cell 14 = .ok (.i2l, 1) := by decide +kernel
theorem dX9_cell_15 : decode cX9_cell 15 = .ok (.lconst 0, 1) := by decide +kernel
theorem dX9_cell_16 : decode cX9_cell 16 = .ok (.ldc2_w 231, 3) := by decide +kernel
theorem dX9_cell_19 : decode cX9_cell 19 = .ok (.invokestatic 81, 3) := by decide +kernel
theorem dX9_cell_22 : decode cX9_cell 22 = .ok (.ifCond .ne 6, 3) := by decide +kernel
theorem dX9_cell_25 : decode cX9_cell 25 = .ok (.ldc 91, 2) := by decide +kernel
theorem dX9_cell_27 : decode cX9_cell 27 = .ok (.ireturn, 1) := by decide +kernel
theorem dX9_cell_28 : decode cX9_cell 28 = .ok (.aload_n 0, 1) := by decide +kernel
theorem dX9_cell_29 : decode cX9_cell 29 = .ok (.invokevirtual 289, 3) := by decide +kernel
theorem dX9_cell_32 : decode cX9_cell 32 = .ok (.aload_n 0, 1) := by decide +kernel
theorem dX9_cell_33 : decode cX9_cell 33 = .ok (.getfield 46, 3) := by decide +kernel
theorem dX9_cell_36 : decode cX9_cell 36 = .ok (.bipush 12, 2) := by decide +kernel
theorem dX9_cell_38 : decode cX9_cell 38 = .ok (.iload_n 2, 1) := by decide +kernel
theorem dX9_cell_39 : decode cX9_cell 39 = .ok (.imul, 1) := by decide +kernel
theorem dX9_cell_40 : decode cX9_cell 40 = .ok (.iload_n 1, 1) := by decide +kernel
theorem dX9_cell_41 : decode cX9_cell 41 = .ok (.iadd, 1) := by decide +kernel
theorem dX9_cell_42 : decode cX9_cell 42 = .ok (.iaload, 1) := by decide +kernel
theorem dX9_cell_43 : decode cX9_cell 43 = .ok (.ireturn, 1) := by decide +kernel
theorem dX9_height_0 : decode cX9_height 0 = .ok (.aload_n 0, 1) := by decide +kernel
theorem dX9_height_1 : decode cX9_height 1 = .ok (.iconst 0, 1) := by decide +kernel
theorem dX9_height_2 : decode cX9_height 2 = .ok (.putfield 71, 3) := by decide +kernel
theorem dX9_height_5 : decode cX9_height 5 = .ok (.aload_n 0, 1) := by decide +kernel
theorem dX9_height_6 : decode cX9_height 6 = .ok (.getfield 212, 3) := by decide +kernel
theorem dX9_height_9 : decode cX9_height 9 = .ok (.ifCond .ne 7, 3) := by decide +kernel
theorem dX9_height_12 : decode cX9_height 12 = .ok (.ldc_w 273, 3) := by decide +kernel
theorem dX9_height_15 : decode cX9_height 15 = .ok (.ireturn, 1) := by decide +kernel
theorem dX9_height_16 : decode cX9_height 16 = .ok (.iload_n 1, 1) := by decide +kernel
theorem dX9_height_17 : decode cX9_height 17 = .ok (.i2l, 1) := by decide +kernel
theorem dX9_height_18 : decode cX9_height 18 = .ok (.lconst 0, 1) := by decide +kernel
theorem dX9_height_19 : decode cX9_height 19 = .ok (.aload_n 0, 1) := by decide +kernel
theorem dX9_height_20 : decode cX9_height 20 = .ok (.getfield 212, 3) := by decide +kernel
theorem dX9_height_23 : decode cX9_height 23 = .ok (.i2l, 1) := by decide +kernel
theorem dX9_height_24 : decode cX9_height 24 = .ok (.invokestatic 81, 3) := by decide +kernel
theorem dX9_height_27 : decode cX9_height 27 = .ok (.ifCond .ne 6, 3) := by decide +kernel
theorem dX9_height_30 : decode cX9_height 30 = .ok (.ldc 91, 2) := by decide +kernel
theorem dX9_height_32 : decode cX9_height 32 = .ok (.ireturn, 1) := by decide +kernel
theorem dX9_height_33 : decode cX9_height 33 = .ok (.aload_n 0, 1) := by decide +kernel
theorem dX9_height_34 : decode cX9_height 34 = .ok (.invokevirtual 289, 3) := by decide +kernel
theorem dX9_height_37 : decode cX9_height 37 = .ok (.aload_n 0, 1) := by decide +kernel
theorem dX9_height_38 : decode cX9_height 38 = .ok (.aload_n 0, 1) := by decide +kernel
theorem dX9_height_39 : decode cX9_height 39 = .ok (.getfield 46, 3) := by decide +kernel
theorem dX9_height_42 : decode cX9_height 42 = .ok (.iload_n 1, 1) := by decide +kernel
theorem dX9_height_43 : decode cX9_height 43 = .ok (.invokevirtual 266, 3) := by decide +kernel
theorem dX9_height_46 : decode cX9_height 46 = .ok (.ireturn, 1) := by decide +kernel
theorem dX9_minutes_0 : decode cX9_minutes 0 = .ok (.aload_n 0, 1) := by decide +kernel
theorem dX9_minutes_1 : decode cX9_minutes 1 = .ok (.iconst 0, 1) := by decide +kernel
theorem dX9_minutes_2 : decode cX9_minutes 2 = .ok (.putfield 71, 3) := by decide +kernel
theorem dX9_minutes_5 : decode cX9_minutes 5 = .ok (.aload_n 0, 1) := by decide +kernel
theorem dX9_minutes_6 : decode cX9_minutes 6 = .ok (.getfield 224, 3) := by decide +kernel
theorem dX9_minutes_9 : decode cX9_minutes 9 = .ok (.ifCond .eq 10, 3) := by decide +kernel
theorem dX9_minutes_12 : decode cX9_minutes 12 = .ok (.aload_n 0, 1) := by decide +kernel
theorem dX9_minutes_13 : decode cX9_minutes 13 = .ok (.getfield 270, 3) := by decide +kernel
theorem dX9_minutes_16 : decode cX9_minutes 16 = .ok (.goto 4, 3) := by decide +kernel
theorem dX9_minutes_19 : decode cX9_minutes 19 = .ok (.iconst 0, 1) := by decide +kernel
theorem dX9_minutes_20 : decode cX9_minutes 20 = .ok (.ireturn, 1) := by decide +kernel
theorem dX9_gives_0 : decode cX9_gives 0 = .ok (.aload_n 0, 1) := by decide +kernel
theorem dX9_gives_1 : decode cX9_gives 1 = .ok (.iconst 0, 1) := by decide +kernel
theorem dX9_gives_2 : decode cX9_gives 2 = .ok (.putfield 71, 3) := by decide +kernel
theorem dX9_gives_5 : decode cX9_gives 5 = .ok (.iload_n 1, 1) := by decide +kernel
theorem dX9_gives_6 : decode cX9_gives 6 = .ok (.i2l, 1) := by decide +kernel
theorem dX9_gives_7 : decode cX9_gives 7 = .ok (.lconst 0, 1) := by decide +kernel
theorem dX9_gives_8 : decode cX9_gives 8 = .ok (.aload_n 0, 1) := by decide +kernel
theorem dX9_gives_9 : decode cX9_gives 9 = .ok (.getfield 215, 3) := by decide +kernel
theorem dX9_gives_12 : decode cX9_gives 12 = .ok (.iconst 1, 1) := by decide +kernel
theorem dX9_gives_13 : decode cX9_gives 13 = .ok (.isub, 1) := by decide +kernel
theorem dX9_gives_14 : decode cX9_gives 14 = .ok (.i2l, 1) := by decide +kernel
theorem dX9_gives_15 : decode cX9_gives 15 = .ok (.invokestatic 81, 3) := by decide +kernel
theorem dX9_gives_18 : decode cX9_gives 18 = .ok (.ifCond .ne 6, 3) := by decide +kernel
theorem dX9_gives_21 : decode cX9_gives 21 = .ok (.ldc 91, 2) := by decide +kernel
theorem dX9_gives_23 : decode cX9_gives 23 = .ok (.ireturn, 1) := by decide +kernel
theorem dX9_gives_24 : decode cX9_gives 24 = .ok (.iconst 0, 1) := by decide +kernel
theorem dX9_gives_25 : decode cX9_gives 25 = .ok (.istore_n 2, 1) := by decide +kernel
theorem dX9_gives_26 : decode cX9_gives 26 = .ok (.iload_n 2, 1) := by decide +kernel
theorem dX9_gives_27 : decode cX9_gives 27 = .ok (.bipush 6, 2) := by decide +kernel
theorem dX9_gives_29 : decode cX9_gives 29 = .ok (.if_icmp .ge 21, 3) := by decide +kernel
theorem dX9_gives_32 : decode cX9_gives 32 = .ok (.aload_n 0, 1) := by decide +kernel
theorem dX9_gives_33 : decode cX9_gives 33 = .ok (.getfield 62, 3) := by decide +kernel
theorem dX9_gives_36 : decode cX9_gives 36 = .ok (.iload_n 2, 1) := by decide +kernel
theorem dX9_gives_37 : decode cX9_gives 37 = .ok (.aload_n 0, 1) := by decide +kernel
theorem dX9_gives_38 : decode cX9_gives 38 = .ok (.getfield 43, 3) := by decide +kernel
theorem dX9_gives_41 : decode cX9_gives 41 = .ok (.iload_n 2, 1) := by decide +kernel
theorem dX9_gives_42 : decode cX9_gives 42 = .ok (.iaload, 1) := by decide +kernel
theorem dX9_gives_43 : decode cX9_gives 43 = .ok (.iastore, 1) := by decide +kernel
theorem dX9_gives_44 : decode cX9_gives 44 = .ok (.iinc 2 1, 3) := by decide +kernel
theorem dX9_gives_47 : decode cX9_gives 47 = .ok (.goto (-21), 3) := by decide +kernel
theorem dX9_gives_50 : decode cX9_gives 50 = .ok (.aload_n 0, 1) := by decide +kernel
theorem dX9_gives_51 : decode cX9_gives 51 = .ok (.invokevirtual 274, 3) := by decide +kernel
theorem dX9_gives_54 : decode cX9_gives 54 = .ok (.aload_n 0, 1) := by decide +kernel
theorem dX9_gives_55 : decode cX9_gives 55 = .ok (.ldc 107, 2) := by decide +kernel
theorem dX9_gives_57 : decode cX9_gives 57 = .ok (.invokevirtual 277, 3) := by decide +kernel
theorem dX9_gives_60 : decode cX9_gives 60 = .ok (.aload_n 0, 1) := by decide +kernel
theorem dX9_gives_61 : decode cX9_gives 61 = .ok (.invokevirtual 283, 3) := by decide +kernel
theorem dX9_gives_64 : decode cX9_gives 64 = .ok (.istore_n 2, 1) := by decide +kernel
theorem dX9_gives_65 : decode cX9_gives 65 = .ok (.aload_n 0, 1) := by decide +kernel
theorem dX9_gives_66 : decode cX9_gives 66 = .ok (.iload_n 1, 1) := by decide +kernel
theorem dX9_gives_67 : decode cX9_gives 67 = .ok (.invokevirtual 277, 3) := by decide +kernel
theorem dX9_gives_70 : decode cX9_gives 70 = .ok (.iload_n 2, 1) := by decide +kernel
theorem dX9_gives_71 : decode cX9_gives 71 = .ok (.aload_n 0, 1) := by decide +kernel
theorem dX9_gives_72 : decode cX9_gives 72 = .ok (.invokevirtual 283, 3) := by decide +kernel
theorem dX9_gives_75 : decode cX9_gives 75 = .ok (.isub, 1) := by decide +kernel
theorem dX9_gives_76 : decode cX9_gives 76 = .ok (.ireturn, 1) := by decide +kernel
theorem dX9_fits_0 : decode cX9_fits 0 = .ok (.iconst 1, 1) := by decide +kernel
theorem dX9_fits_1 : decode cX9_fits 1 = .ok (.istore_n 1, 1) := by decide +kernel
theorem dX9_fits_2 : decode cX9_fits 2 = .ok (.iconst 0, 1) := by decide +kernel
theorem dX9_fits_3 : decode cX9_fits 3 = .ok (.istore_n 2, 1) := by decide +kernel
theorem dX9_fits_4 : decode cX9_fits 4 = .ok (.iload_n 2, 1) := by decide +kernel
theorem dX9_fits_5 : decode cX9_fits 5 = .ok (.aload_n 0, 1) := by decide +kernel
theorem dX9_fits_6 : decode cX9_fits 6 = .ok (.getfield 221, 3) := by decide +kernel
theorem dX9_fits_9 : decode cX9_fits 9 = .ok (.if_icmp .ge 96, 3) := by decide +kernel
theorem dX9_fits_12 : decode cX9_fits 12 = .ok (.iconst 0, 1) := by decide +kernel
theorem dX9_fits_13 : decode cX9_fits 13 = .ok (.istore_n 3, 1) := by decide +kernel
theorem dX9_fits_14 : decode cX9_fits 14 = .ok (.iconst 0, 1) := by decide +kernel
theorem dX9_fits_15 : decode cX9_fits 15 = .ok (.istore 4, 2) := by decide +kernel
theorem dX9_fits_17 : decode cX9_fits 17 = .ok (.iconst 0, 1) := by decide +kernel
theorem dX9_fits_18 : decode cX9_fits 18 = .ok (.istore 5, 2) := by decide +kernel
theorem dX9_fits_20 : decode cX9_fits 20 = .ok (.iload 5, 2) := by decide +kernel
theorem dX9_fits_22 : decode cX9_fits 22 = .ok (.aload_n 0, 1) := by decide +kernel
theorem dX9_fits_23 : decode cX9_fits 23 = .ok (.getfield 215, 3) := by decide +kernel
theorem dX9_fits_26 : decode cX9_fits 26 = .ok (.if_icmp .ge 57, 3) := by decide +kernel
theorem dX9_fits_29 : decode cX9_fits 29 = .ok (.aload_n 0, 1) := by decide +kernel
theorem dX9_fits_30 : decode cX9_fits 30 = .ok (.getfield 62, 3) := by decide +kernel
theorem dX9_fits_33 : decode cX9_fits 33 = .ok (.iload 5, 2) := by decide +kernel
theorem dX9_fits_35 : decode cX9_fits 35 = .ok (.iaload, 1) := by decide +kernel
theorem dX9_fits_36 : decode cX9_fits 36 = .ok (.aload_n 0, 1) := by decide +kernel
theorem dX9_fits_37 : decode cX9_fits 37 = .ok (.getfield 22, 3) := by decide +kernel
theorem dX9_fits_40 : decode cX9_fits 40 = .ok (.iload_n 2, 1) := by decide +kernel
theorem dX9_fits_41 : decode cX9_fits 41 = .ok (.iaload, 1) := by decide +kernel
theorem dX9_fits_42 : decode cX9_fits 42 = .ok (.if_icmp .ne 8, 3) := by decide +kernel
theorem dX9_fits_45 : decode cX9_fits 45 = .ok (.iload 5, 2) := by decide +kernel
theorem dX9_fits_47 : decode cX9_fits 47 = .ok (.goto 4, 3) := by decide +kernel
theorem dX9_fits_50 : decode cX9_fits 50 = .ok (.iload_n 3, 1) := by decide +kernel
theorem dX9_fits_51 : decode cX9_fits 51 = .ok (.istore_n 3, 1) := by decide +kernel
theorem dX9_fits_52 : decode cX9_fits 52 = .ok (.aload_n 0, 1) := by decide +kernel
theorem dX9_fits_53 : decode cX9_fits 53 = .ok (.getfield 62, 3) := by decide +kernel
theorem dX9_fits_56 : decode cX9_fits 56 = .ok (.iload 5, 2) := by decide +kernel
theorem dX9_fits_58 : decode cX9_fits 58 = .ok (.iaload, 1) := by decide +kernel
theorem dX9_fits_59 : decode cX9_fits 59 = .ok (.aload_n 0, 1) := by decide +kernel
theorem dX9_fits_60 : decode cX9_fits 60 = .ok (.getfield 25, 3) := by decide +kernel
theorem dX9_fits_63 : decode cX9_fits 63 = .ok (.iload_n 2, 1) := by decide +kernel
theorem dX9_fits_64 : decode cX9_fits 64 = .ok (.iaload, 1) := by decide +kernel
theorem dX9_fits_65 : decode cX9_fits 65 = .ok (.if_icmp .ne 8, 3) := by decide +kernel
theorem dX9_fits_68 : decode cX9_fits 68 = .ok (.iload 5, 2) := by decide +kernel
theorem dX9_fits_70 : decode cX9_fits 70 = .ok (.goto 5, 3) := by decide +kernel
theorem dX9_fits_73 : decode cX9_fits 73 = .ok (.iload 4, 2) := by decide +kernel
theorem dX9_fits_75 : decode cX9_fits 75 = .ok (.istore 4, 2) := by decide +kernel
theorem dX9_fits_77 : decode cX9_fits 77 = .ok (.iinc 5 1, 3) := by decide +kernel
theorem dX9_fits_80 : decode cX9_fits 80 = .ok (.goto (-60), 3) := by decide +kernel
theorem dX9_fits_83 : decode cX9_fits 83 = .ok (.iload_n 1, 1) := by decide +kernel
theorem dX9_fits_84 : decode cX9_fits 84 = .ok (.ifCond .eq 13, 3) := by decide +kernel
theorem dX9_fits_87 : decode cX9_fits 87 = .ok (.iload_n 3, 1) := by decide +kernel
theorem dX9_fits_88 : decode cX9_fits 88 = .ok (.iload 4, 2) := by decide +kernel
theorem dX9_fits_90 : decode cX9_fits 90 = .ok (.if_icmp .ge 7, 3) := by decide +kernel
theorem dX9_fits_93 : decode cX9_fits 93 = .ok (.iconst 1, 1) := by decide +kernel
theorem dX9_fits_94 : decode cX9_fits 94 = .ok (.goto 4, 3) := by decide +kernel
theorem dX9_fits_97 : decode cX9_fits 97 = .ok (.iconst 0, 1) := by decide +kernel
theorem dX9_fits_98 : decode cX9_fits 98 = .ok (.istore_n 1, 1) := by decide +kernel
theorem dX9_fits_99 : decode cX9_fits 99 = .ok (.iinc 2 1, 3) := by decide +kernel
theorem dX9_fits_102 : decode cX9_fits 102 = .ok (.goto (-98), 3) := by decide +kernel
theorem dX9_fits_105 : decode cX9_fits 105 = .ok (.iload_n 1, 1) := by decide +kernel
theorem dX9_fits_106 : decode cX9_fits 106 = .ok (.ireturn, 1) := by decide +kernel
theorem dX9_nextOrder_0 : decode cX9_nextOrder 0 = .ok (.aload_n 0, 1) := by decide +kernel
theorem dX9_nextOrder_1 : decode cX9_nextOrder 1 = .ok (.getfield 215, 3) := by decide +kernel
theorem dX9_nextOrder_4 : decode cX9_nextOrder 4 = .ok (.iconst 2, 1) := by decide +kernel
theorem dX9_nextOrder_5 : decode cX9_nextOrder 5 = .ok (.isub, 1) := by decide +kernel
theorem dX9_nextOrder_6 : decode cX9_nextOrder 6 = .ok (.istore_n 1, 1) := by decide +kernel
theorem dX9_nextOrder_7 : decode cX9_nextOrder 7 = .ok (.iload_n 1, 1) := by decide +kernel
theorem dX9_nextOrder_8 : decode cX9_nextOrder 8 = .ok (.ifCond .lt 26, 3) := by decide +kernel
theorem dX9_nextOrder_11 : decode cX9_nextOrder 11 = .ok (.aload_n 0, 1) := by decide +kernel
theorem dX9_nextOrder_12 : decode cX9_nextOrder 12 = .ok (.getfield 62, 3) := by decide +kernel
theorem dX9_nextOrder_15 : decode cX9_nextOrder 15 = .ok (.iload_n 1, 1) := by decide +kernel
theorem dX9_nextOrder_16 : decode cX9_nextOrder 16 = .ok (.iaload, 1) := by decide +kernel
theorem dX9_nextOrder_17 : decode cX9_nextOrder 17 = .ok (.aload_n 0, 1) := by decide +kernel
theorem dX9_nextOrder_18 : decode cX9_nextOrder 18 = .ok (.getfield 62, 3) := by decide +kernel
theorem dX9_nextOrder_21 : decode cX9_nextOrder 21 = .ok (.iload_n 1, 1) := by decide +kernel
theorem dX9_nextOrder_22 : decode cX9_nextOrder 22 = .ok (.iconst 1, 1) := by decide +kernel
theorem dX9_nextOrder_23 : decode cX9_nextOrder 23 = .ok (.iadd, 1) := by decide +kernel
theorem dX9_nextOrder_24 : decode cX9_nextOrder 24 = .ok (.iaload, 1) := by decide +kernel
theorem dX9_nextOrder_25 : decode cX9_nextOrder 25 = .ok (.if_icmp .le 9, 3) := by decide +kernel
theorem dX9_nextOrder_28 : decode cX9_nextOrder 28 = .ok (.iinc 1 (-1), 3) := by decide +kernel
theorem dX9_nextOrder_31 : decode cX9_nextOrder 31 = .ok (.goto (-24), 3) := by decide +kernel
theorem dX9_nextOrder_34 : decode cX9_nextOrder 34 = .ok (.iload_n 1, 1) := by decide +kernel
theorem dX9_nextOrder_35 : decode cX9_nextOrder 35 = .ok (.ifCond .ge 5, 3) := by decide +kernel
theorem dX9_nextOrder_38 : decode cX9_nextOrder 38 = .ok (.iconst 0, 1) := by decide +kernel
theorem dX9_nextOrder_39 : decode cX9_nextOrder 39 = .ok (.ireturn, 1) := by decide +kernel
theorem dX9_nextOrder_40 : decode cX9_nextOrder 40 = .ok (.aload_n 0, 1) := by decide +kernel
theorem dX9_nextOrder_41 : decode cX9_nextOrder 41 = .ok (.getfield 215, 3) := by decide +kernel
theorem dX9_nextOrder_44 : decode cX9_nextOrder 44 = .ok (.iconst 1, 1) := by decide +kernel
theorem dX9_nextOrder_45 : decode cX9_nextOrder 45 = .ok (.isub, 1) := by decide +kernel
theorem dX9_nextOrder_46 : decode cX9_nextOrder 46 = .ok (.istore_n 2, 1) := by decide +kernel
theorem dX9_nextOrder_47 : decode cX9_nextOrder 47 = .ok (.aload_n 0, 1) := by decide +kernel
theorem dX9_nextOrder_48 : decode cX9_nextOrder 48 = .ok (.getfield 62, 3) := by decide +kernel
theorem dX9_nextOrder_51 : decode cX9_nextOrder 51 = .ok (.iload_n 2, 1) := by decide +kernel
theorem dX9_nextOrder_52 : decode cX9_nextOrder 52 = .ok (.iaload, 1) := by decide +kernel
theorem dX9_nextOrder_53 : decode cX9_nextOrder 53 = .ok (.aload_n 0, 1) := by decide +kernel
theorem dX9_nextOrder_54 : decode cX9_nextOrder 54 = .ok (.getfield 62, 3) := by decide +kernel
theorem dX9_nextOrder_57 : decode cX9_nextOrder 57 = .ok (.iload_n 1, 1) := by decide +kernel
theorem dX9_nextOrder_58 : decode cX9_nextOrder 58 = .ok (.iaload, 1) := by decide +kernel
theorem dX9_nextOrder_59 : decode cX9_nextOrder 59 = .ok (.if_icmp .ge 9, 3) := by decide +kernel
theorem dX9_nextOrder_62 : decode cX9_nextOrder 62 = .ok (.iinc 2 (-1), 3) := by decide +kernel
theorem dX9_nextOrder_65 : decode cX9_nextOrder 65 = .ok (.goto (-18), 3) := by decide +kernel
theorem dX9_nextOrder_68 : decode cX9_nextOrder 68 = .ok (.aload_n 0, 1) := by decide +kernel
theorem dX9_nextOrder_69 : decode cX9_nextOrder 69 = .ok (.getfield 62, 3) := by decide +kernel
theorem dX9_nextOrder_72 : decode cX9_nextOrder 72 = .ok (.iload_n 1, 1) := by decide +kernel
theorem dX9_nextOrder_73 : decode cX9_nextOrder 73 = .ok (.iaload, 1) := by decide +kernel
theorem dX9_nextOrder_74 : decode cX9_nextOrder 74 = .ok (.istore_n 3, 1) := by decide +kernel
theorem dX9_nextOrder_75 : decode cX9_nextOrder 75 = .ok (.aload_n 0, 1) := by decide +kernel
theorem dX9_nextOrder_76 : decode cX9_nextOrder 76 = .ok (.getfield 62, 3) := by decide +kernel
theorem dX9_nextOrder_79 : decode cX9_nextOrder 79 = .ok (.iload_n 1, 1) := by decide +kernel
theorem dX9_nextOrder_80 : decode cX9_nextOrder 80 = .ok (.aload_n 0, 1) := by decide +kernel
theorem dX9_nextOrder_81 : decode cX9_nextOrder 81 = .ok (.getfield 62, 3) := by decide +kernel
theorem dX9_nextOrder_84 : decode cX9_nextOrder 84 = .ok (.iload_n 2, 1) := by decide +kernel
theorem dX9_nextOrder_85 : decode cX9_nextOrder 85 = .ok (.iaload, 1) := by decide +kernel
theorem dX9_nextOrder_86 : decode cX9_nextOrder 86 = .ok (.iastore, 1) := by decide +kernel
theorem dX9_nextOrder_87 : decode cX9_nextOrder 87 = .ok (.aload_n 0, 1) := by decide +kernel
theorem dX9_nextOrder_88 : decode cX9_nextOrder 88 = .ok (.getfield 62, 3) := by decide +kernel
theorem dX9_nextOrder_91 : decode cX9_nextOrder 91 = .ok (.iload_n 2, 1) := by decide +kernel
theorem dX9_nextOrder_92 : decode cX9_nextOrder 92 = .ok (.iload_n 3, 1) := by decide +kernel
theorem dX9_nextOrder_93 : decode cX9_nextOrder 93 = .ok (.iastore, 1) := by decide +kernel
theorem dX9_nextOrder_94 : decode cX9_nextOrder 94 = .ok (.iload_n 1, 1) := by decide +kernel
theorem dX9_nextOrder_95 : decode cX9_nextOrder 95 = .ok (.iconst 1, 1) := by decide +kernel
theorem dX9_nextOrder_96 : decode cX9_nextOrder 96 = .ok (.iadd, 1) := by decide +kernel
theorem dX9_nextOrder_97 : decode cX9_nextOrder 97 = .ok (.istore 4, 2) := by decide +kernel
theorem dX9_nextOrder_99 : decode cX9_nextOrder 99 = .ok (.aload_n 0, 1) := by decide +kernel
theorem dX9_nextOrder_100 : decode cX9_nextOrder 100 = .ok (.getfield 215, 3) := by decide +kernel
theorem dX9_nextOrder_103 : decode cX9_nextOrder 103 = .ok (.iconst 1, 1) := by decide +kernel
theorem dX9_nextOrder_104 : decode cX9_nextOrder 104 = .ok (.isub, 1) := by decide +kernel
theorem dX9_nextOrder_105 : decode cX9_nextOrder 105 = .ok (.istore 5, 2) := by decide +kernel
theorem dX9_nextOrder_107 : decode cX9_nextOrder 107 = .ok (.iload 4, 2) := by decide +kernel
theorem dX9_nextOrder_109 : decode cX9_nextOrder 109 = .ok (.iload 5, 2) := by decide +kernel
theorem dX9_nextOrder_111 : decode cX9_nextOrder 111 = .ok (.if_icmp .ge 42, 3) := by decide +kernel
theorem dX9_nextOrder_114 : decode cX9_nextOrder 114 = .ok (.aload_n 0, 1) := by decide +kernel
theorem dX9_nextOrder_115 : decode cX9_nextOrder 115 = .ok (.getfield 62, 3) := by decide +kernel
theorem dX9_nextOrder_118 : decode cX9_nextOrder 118 = .ok (.iload 4, 2) := by decide +kernel
theorem dX9_nextOrder_120 : decode cX9_nextOrder 120 = .ok (.iaload, 1) := by decide +kernel
theorem dX9_nextOrder_121 : decode cX9_nextOrder 121 = .ok (.istore_n 3, 1) := by decide +kernel
theorem dX9_nextOrder_122 : decode cX9_nextOrder 122 = .ok (.aload_n 0, 1) := by decide +kernel
theorem dX9_nextOrder_123 : decode cX9_nextOrder 123 = .ok (.getfield 62, 3) := by decide +kernel
theorem dX9_nextOrder_126 : decode cX9_nextOrder 126 = .ok (.iload 4, 2) := by decide +kernel
theorem dX9_nextOrder_128 : decode cX9_nextOrder 128 = .ok (.aload_n 0, 1) := by decide +kernel
theorem dX9_nextOrder_129 : decode cX9_nextOrder 129 = .ok (.getfield 62, 3) := by decide +kernel
theorem dX9_nextOrder_132 : decode cX9_nextOrder 132 = .ok (.iload 5, 2) := by decide +kernel
theorem dX9_nextOrder_134 : decode cX9_nextOrder 134 = .ok (.iaload, 1) := by decide +kernel
theorem dX9_nextOrder_135 : decode cX9_nextOrder 135 = .ok (.iastore, 1) := by decide +kernel
theorem dX9_nextOrder_136 : decode cX9_nextOrder 136 = .ok (.aload_n 0, 1) := by decide +kernel
theorem dX9_nextOrder_137 : decode cX9_nextOrder 137 = .ok (.getfield 62, 3) := by decide +kernel
theorem dX9_nextOrder_140 : decode cX9_nextOrder 140 = .ok (.iload 5, 2) := by decide +kernel
theorem dX9_nextOrder_142 : decode cX9_nextOrder 142 = .ok (.iload_n 3, 1) := by decide +kernel
theorem dX9_nextOrder_143 : decode cX9_nextOrder 143 = .ok (.iastore, 1) := by decide +kernel
theorem dX9_nextOrder_144 : decode cX9_nextOrder 144 = .ok (.iinc 4 1, 3) := by decide +kernel
theorem dX9_nextOrder_147 : decode cX9_nextOrder 147 = .ok (.iinc 5 (-1), 3) := by decide +kernel
theorem dX9_nextOrder_150 : decode cX9_nextOrder 150 = .ok (.goto (-43), 3) := by decide +kernel
theorem dX9_nextOrder_153 : decode cX9_nextOrder 153 = .ok (.iconst 1, 1) := by decide +kernel
theorem dX9_nextOrder_154 : decode cX9_nextOrder 154 = .ok (.ireturn, 1) := by decide +kernel
theorem dX9_best_0 : decode cX9_best 0 = .ok (.aload_n 0, 1) := by decide +kernel
theorem dX9_best_1 : decode cX9_best 1 = .ok (.iconst 0, 1) := by decide +kernel
theorem dX9_best_2 : decode cX9_best 2 = .ok (.putfield 71, 3) := by decide +kernel
theorem dX9_best_5 : decode cX9_best 5 = .ok (.iload_n 1, 1) := by decide +kernel
theorem dX9_best_6 : decode cX9_best 6 = .ok (.iconst (-1), 1) := by decide +kernel
theorem dX9_best_7 : decode cX9_best 7 = .ok (.if_icmp .ge 6, 3) := by decide +kernel
theorem dX9_best_10 : decode cX9_best 10 = .ok (.ldc 91, 2) := by decide +kernel
theorem dX9_best_12 : decode cX9_best 12 = .ok (.ireturn, 1) := by decide +kernel
theorem dX9_best_13 : decode cX9_best 13 = .ok (.aload_n 0, 1) := by decide +kernel
theorem dX9_best_14 : decode cX9_best 14 = .ok (.getfield 212, 3) := by decide +kernel
theorem dX9_best_17 : decode cX9_best 17 = .ok (.ifCond .ne 7, 3) := by decide +kernel
theorem dX9_best_20 : decode cX9_best 20 = .ok (.ldc_w 273, 3) := by decide +kernel
theorem dX9_best_23 : decode cX9_best 23 = .ok (.ireturn, 1) := by decide +kernel
theorem dX9_best_24 : decode cX9_best 24 = .ok (.aload_n 0, 1) := by decide +kernel
theorem dX9_best_25 : decode cX9_best 25 = .ok (.invokevirtual 286, 3) := by decide +kernel
theorem dX9_best_28 : decode cX9_best 28 = .ok (.aload_n 0, 1) := by decide +kernel
theorem dX9_best_29 : decode cX9_best 29 = .ok (.invokevirtual 274, 3) := by decide +kernel
theorem dX9_best_32 : decode cX9_best 32 = .ok (.ldc 107, 2) := by decide +kernel
theorem dX9_best_34 : decode cX9_best 34 = .ok (.istore_n 2, 1) := by decide +kernel
theorem dX9_best_35 : decode cX9_best 35 = .ok (.iconst 1, 1) := by decide +kernel
theorem dX9_best_36 : decode cX9_best 36 = .ok (.istore_n 3, 1) := by decide +kernel
theorem dX9_best_37 : decode cX9_best 37 = .ok (.iload_n 3, 1) := by decide +kernel
theorem dX9_best_38 : decode cX9_best 38 = .ok (.ifCond .eq 75, 3) := by decide +kernel
theorem dX9_best_41 : decode cX9_best 41 = .ok (.aload_n 0, 1) := by decide +kernel
theorem dX9_best_42 : decode cX9_best 42 = .ok (.invokevirtual 292, 3) := by decide +kernel
theorem dX9_best_45 : decode cX9_best 45 = .ok (.ifCond .eq 60, 3) := by decide +kernel
theorem dX9_best_48 : decode cX9_best 48 = .ok (.aload_n 0, 1) := by decide +kernel
theorem dX9_best_49 : decode cX9_best 49 = .ok (.ldc 107, 2) := by decide +kernel
theorem dX9_best_51 : decode cX9_best 51 = .ok (.invokevirtual 277, 3) := by decide +kernel
theorem dX9_best_54 : decode cX9_best 54 = .ok (.aload_n 0, 1) := by decide +kernel
theorem dX9_best_55 : decode cX9_best 55 = .ok (.invokevirtual 283, 3) := by decide +kernel
theorem dX9_best_58 : decode cX9_best 58 = .ok (.istore 4, 2) := by decide +kernel
theorem dX9_best_60 : decode cX9_best 60 = .ok (.iload_n 2, 1) := by decide +kernel
theorem dX9_best_61 : decode cX9_best 61 = .ok (.ldc 107, 2) := by decide +kernel
theorem dX9_best_63 : decode cX9_best 63 = .ok (.if_icmp .eq 9, 3) := by decide +kernel
theorem dX9_best_66 : decode cX9_best 66 = .ok (.iload 4, 2) := by decide +kernel
theorem dX9_best_68 : decode cX9_best 68 = .ok (.iload_n 2, 1) := by decide +kernel
theorem dX9_best_69 : decode cX9_best 69 = .ok (.if_icmp .ge 36, 3) := by decide +kernel
theorem dX9_best_72 : decode cX9_best 72 = .ok (.iload 4, 2) := by decide +kernel
theorem dX9_best_74 : decode cX9_best 74 = .ok (.istore_n 2, 1) := by decide +kernel
theorem dX9_best_75 : decode cX9_best 75 = .ok (.iconst 0, 1) := by decide +kernel
theorem dX9_best_76 : decode cX9_best 76 = .ok (.istore 5, 2) := by decide +kernel
theorem dX9_best_78 : decode cX9_best 78 = .ok (.iload 5, 2) := by decide +kernel
theorem dX9_best_80 : decode cX9_best 80 = .ok (.bipush 6, 2) := by decide +kernel
theorem dX9_best_82 : decode cX9_best 82 = .ok (.if_icmp .ge 23, 3) := by decide +kernel
theorem dX9_best_85 : decode cX9_best 85 = .ok (.aload_n 0, 1) := by decide +kernel
theorem dX9_best_86 : decode cX9_best 86 = .ok (.getfield 65, 3) := by decide +kernel
theorem dX9_best_89 : decode cX9_best 89 = .ok (.iload 5, 2) := by decide +kernel
theorem dX9_best_91 : decode cX9_best 91 = .ok (.aload_n 0, 1) := by decide +kernel
theorem dX9_best_92 : decode cX9_best 92 = .ok (.getfield 62, 3) := by decide +kernel
theorem dX9_best_95 : decode cX9_best 95 = .ok (.iload 5, 2) := by decide +kernel
theorem dX9_best_97 : decode cX9_best 97 = .ok (.iaload, 1) := by decide +kernel
theorem dX9_best_98 : decode cX9_best 98 = .ok (.iastore, 1) := by decide +kernel
theorem dX9_best_99 : decode cX9_best 99 = .ok (.iinc 5 1, 3) := by decide +kernel
theorem dX9_best_102 : decode cX9_best 102 = .ok (.goto (-24), 3) := by decide +kernel
theorem dX9_best_105 : decode cX9_best 105 = .ok (.aload_n 0, 1) := by decide +kernel
theorem dX9_best_106 : decode cX9_best 106 = .ok (.invokevirtual 296, 3) := by decide +kernel
theorem dX9_best_109 : decode cX9_best 109 = .ok (.istore_n 3, 1) := by decide +kernel
theorem dX9_best_110 : decode cX9_best 110 = .ok (.goto (-73), 3) := by decide +kernel
theorem dX9_best_113 : decode cX9_best 113 = .ok (.iload_n 1, 1) := by decide +kernel
theorem dX9_best_114 : decode cX9_best 114 = .ok (.iconst (-1), 1) := by decide +kernel
theorem dX9_best_115 : decode cX9_best 115 = .ok (.if_icmp .ne 7, 3) := by decide +kernel
theorem dX9_best_118 : decode cX9_best 118 = .ok (.iload_n 2, 1) := by decide +kernel
theorem dX9_best_119 : decode cX9_best 119 = .ok (.goto 28, 3) := by decide +kernel
theorem dX9_best_122 : decode cX9_best 122 = .ok (.iload_n 2, 1) := by decide +kernel
theorem dX9_best_123 : decode cX9_best 123 = .ok (.ldc 107, 2) := by decide +kernel
theorem dX9_best_125 : decode cX9_best 125 = .ok (.if_icmp .eq 11, 3) := by decide +kernel
theorem dX9_best_128 : decode cX9_best 128 = .ok (.iload_n 1, 1) := by decide +kernel
theorem dX9_best_129 : decode cX9_best 129 = .ok (.aload_n 0, 1) := by decide +kernel
theorem dX9_best_130 : decode cX9_best 130 = .ok (.getfield 215, 3) := by decide +kernel
theorem dX9_best_133 : decode cX9_best 133 = .ok (.if_icmp .lt 8, 3) := by decide +kernel
theorem dX9_best_136 : decode cX9_best 136 = .ok (.ldc 107, 2) := by decide +kernel
theorem dX9_best_138 : decode cX9_best 138 = .ok (.goto 9, 3) := by decide +kernel
theorem dX9_best_141 : decode cX9_best 141 = .ok (.aload_n 0, 1) := by decide +kernel
theorem dX9_best_142 : decode cX9_best 142 = .ok (.getfield 65, 3) := by decide +kernel
theorem dX9_best_145 : decode cX9_best 145 = .ok (.iload_n 1, 1) := by decide +kernel
theorem dX9_best_146 : decode cX9_best 146 = .ok (.iaload, 1) := by decide +kernel
theorem dX9_best_147 : decode cX9_best 147 = .ok (.ireturn, 1) := by decide +kernel
theorem dX9_orders_0 : decode cX9_orders 0 = .ok (.aload_n 0, 1) := by decide +kernel
theorem dX9_orders_1 : decode cX9_orders 1 = .ok (.iconst 0, 1) := by decide +kernel
theorem dX9_orders_2 : decode cX9_orders 2 = .ok (.putfield 71, 3) := by decide +kernel
theorem dX9_orders_5 : decode cX9_orders 5 = .ok (.aload_n 0, 1) := by decide +kernel
theorem dX9_orders_6 : decode cX9_orders 6 = .ok (.getfield 212, 3) := by decide +kernel
theorem dX9_orders_9 : decode cX9_orders 9 = .ok (.ifCond .ne 7, 3) := by decide +kernel
theorem dX9_orders_12 : decode cX9_orders 12 = .ok (.ldc_w 273, 3) := by decide +kernel
theorem dX9_orders_15 : decode cX9_orders 15 = .ok (.ireturn, 1) := by decide +kernel
theorem dX9_orders_16 : decode cX9_orders 16 = .ok (.aload_n 0, 1) := by decide +kernel
theorem dX9_orders_17 : decode cX9_orders 17 = .ok (.invokevirtual 286, 3) := by decide +kernel
theorem dX9_orders_20 : decode cX9_orders 20 = .ok (.iconst 0, 1) := by decide +kernel
theorem dX9_orders_21 : decode cX9_orders 21 = .ok (.istore_n 1, 1) := by decide +kernel
theorem dX9_orders_22 : decode cX9_orders 22 = .ok (.iconst 1, 1) := by decide +kernel
theorem dX9_orders_23 : decode cX9_orders 23 = .ok (.istore_n 2, 1) := by decide +kernel
theorem dX9_orders_24 : decode cX9_orders 24 = .ok (.iload_n 2, 1) := by decide +kernel
theorem dX9_orders_25 : decode cX9_orders 25 = .ok (.ifCond .eq 26, 3) := by decide +kernel
theorem dX9_orders_28 : decode cX9_orders 28 = .ok (.iload_n 1, 1) := by decide +kernel
theorem dX9_orders_29 : decode cX9_orders 29 = .ok (.aload_n 0, 1) := by decide +kernel
theorem dX9_orders_30 : decode cX9_orders 30 = .ok (.invokevirtual 292, 3) := by decide +kernel
theorem dX9_orders_33 : decode cX9_orders 33 = .ok (.ifCond .eq 7, 3) := by decide +kernel
theorem dX9_orders_36 : decode cX9_orders 36 = .ok (.iconst 1, 1) := by decide +kernel
theorem dX9_orders_37 : decode cX9_orders 37 = .ok (.goto 4, 3) := by decide +kernel
theorem dX9_orders_40 : decode cX9_orders 40 = .ok (.iconst 0, 1) := by decide +kernel
theorem dX9_orders_41 : decode cX9_orders 41 = .ok (.iadd, 1) := by decide +kernel
theorem dX9_orders_42 : decode cX9_orders 42 = .ok (.istore_n 1, 1) := by decide +kernel
theorem dX9_orders_43 : decode cX9_orders 43 = .ok (.aload_n 0, 1) := by decide +kernel
theorem dX9_orders_44 : decode cX9_orders 44 = .ok (.invokevirtual 296, 3) := by decide +kernel
theorem dX9_orders_47 : decode cX9_orders 47 = .ok (.istore_n 2, 1) := by decide +kernel
theorem dX9_orders_48 : decode cX9_orders 48 = .ok (.goto (-24), 3) := by decide +kernel
theorem dX9_orders_51 : decode cX9_orders 51 = .ok (.iload_n 1, 1) := by decide +kernel
theorem dX9_orders_52 : decode cX9_orders 52 = .ok (.ireturn, 1) := by decide +kernel
theorem dX9_setBy_0 : decode cX9_setBy 0 = .ok (.iconst 0, 1) := by decide +kernel
theorem dX9_setBy_1 : decode cX9_setBy 1 = .ok (.istore_n 2, 1) := by decide +kernel
theorem dX9_setBy_2 : decode cX9_setBy 2 = .ok (.iload_n 2, 1) := by decide +kernel
theorem dX9_setBy_3 : decode cX9_setBy 3 = .ok (.bipush 41, 2) := by decide +kernel
theorem dX9_setBy_5 : decode cX9_setBy 5 = .ok (.if_icmp .ge 53, 3) := by decide +kernel
theorem dX9_setBy_8 : decode cX9_setBy 8 = .ok (.iconst (-1), 1) := by decide +kernel
theorem dX9_setBy_9 : decode cX9_setBy 9 = .ok (.istore_n 3, 1) := by decide +kernel
theorem dX9_setBy_10 : decode cX9_setBy 10 = .ok (.iload_n 3, 1) := by decide +kernel
theorem dX9_setBy_11 : decode cX9_setBy 11 = .ok (.iconst 2, 1) := by decide +kernel
theorem dX9_setBy_12 : decode cX9_setBy 12 = .ok (.if_icmp .ge 40, 3) := by decide +kernel
theorem dX9_setBy_15 : decode cX9_setBy 15 = .ok (.aload_n 0, 1) := by decide +kernel
theorem dX9_setBy_16 : decode cX9_setBy 16 = .ok (.getfield 59, 3) := by decide +kernel
theorem dX9_setBy_19 : decode cX9_setBy 19 = .ok (.iload_n 1, 1) := by decide +kernel
theorem dX9_setBy_20 : decode cX9_setBy 20 = .ok (.iload_n 3, 1) := by decide +kernel
theorem dX9_setBy_21 : decode cX9_setBy 21 = .ok (.iload_n 2, 1) := by decide +kernel
theorem dX9_setBy_22 : decode cX9_setBy 22 = .ok (.imul, 1) := by decide +kernel
theorem dX9_setBy_23 : decode cX9_setBy 23 = .ok (.iastore, 1) := by decide +kernel
theorem dX9_setBy_24 : decode cX9_setBy 24 = .ok (.aload_n 0, 1) := by decide +kernel
theorem dX9_setBy_25 : decode cX9_setBy 25 = .ok (.ldc 107, 2) := by decide +kernel
theorem dX9_setBy_27 : decode cX9_setBy 27 = .ok (.invokevirtual 277, 3) := by decide +kernel
theorem dX9_setBy_30 : decode cX9_setBy 30 = .ok (.aload_n 0, 1) := by decide +kernel
theorem dX9_setBy_31 : decode cX9_setBy 31 = .ok (.getfield 46, 3) := by decide +kernel
theorem dX9_setBy_34 : decode cX9_setBy 34 = .ok (.bipush 24, 2) := by decide +kernel
theorem dX9_setBy_36 : decode cX9_setBy 36 = .ok (.iload_n 1, 1) := by decide +kernel
theorem dX9_setBy_37 : decode cX9_setBy 37 = .ok (.iadd, 1) := by decide +kernel
theorem dX9_setBy_38 : decode cX9_setBy 38 = .ok (.iaload, 1) := by decide +kernel
theorem dX9_setBy_39 : decode cX9_setBy 39 = .ok (.ifCond .ne 7, 3) := by decide +kernel
theorem dX9_setBy_42 : decode cX9_setBy 42 = .ok (.iload_n 3, 1) := by decide +kernel
theorem dX9_setBy_43 : decode cX9_setBy 43 = .ok (.iload_n 2, 1) := by decide +kernel
theorem dX9_setBy_44 : decode cX9_setBy 44 = .ok (.imul, 1) := by decide +kernel
theorem dX9_setBy_45 : decode cX9_setBy 45 = .ok (.ireturn, 1) := by decide +kernel
theorem dX9_setBy_46 : decode cX9_setBy 46 = .ok (.iinc 3 2, 3) := by decide +kernel
theorem dX9_setBy_49 : decode cX9_setBy 49 = .ok (.goto (-39), 3) := by decide +kernel
theorem dX9_setBy_52 : decode cX9_setBy 52 = .ok (.iinc 2 1, 3) := by decide +kernel
theorem dX9_setBy_55 : decode cX9_setBy 55 = .ok (.goto (-53), 3) := by decide +kernel
theorem dX9_setBy_58 : decode cX9_setBy 58 = .ok (.ldc 107, 2) := by decide +kernel
theorem dX9_setBy_60 : decode cX9_setBy 60 = .ok (.ireturn, 1) := by decide +kernel
theorem dX9_beforehand_0 : decode cX9_beforehand 0 = .ok (.aload_n 0, 1) := by decide +kernel
theorem dX9_beforehand_1 : decode cX9_beforehand 1 = .ok (.iconst 0, 1) := by decide +kernel
theorem dX9_beforehand_2 : decode cX9_beforehand 2 = .ok (.putfield 71, 3) := by decide +kernel
theorem dX9_beforehand_5 : decode cX9_beforehand 5 = .ok (.aload_n 0, 1) := by decide +kernel
theorem dX9_beforehand_6 : decode cX9_beforehand 6 = .ok (.iload_n 1, 1) := by decide +kernel
theorem dX9_beforehand_7 : decode cX9_beforehand 7 = .ok (.invokevirtual 233, 3) := by decide +kernel
theorem dX9_beforehand_10 : decode cX9_beforehand 10 = .ok (.ifCond .ne 6, 3) := by decide +kernel
theorem dX9_beforehand_13 : decode cX9_beforehand 13 = .ok (.ldc 91, 2) := by decide +kernel
theorem dX9_beforehand_15 : decode cX9_beforehand 15 = .ok (.ireturn, 1) := by decide +kernel
theorem dX9_beforehand_16 : decode cX9_beforehand 16 = .ok (.aload_n 0, 1) := by decide +kernel
theorem dX9_beforehand_17 : decode cX9_beforehand 17 = .ok (.invokevirtual 286, 3) := by decide +kernel
theorem dX9_beforehand_20 : decode cX9_beforehand 20 = .ok (.aload_n 0, 1) := by decide +kernel
theorem dX9_beforehand_21 : decode cX9_beforehand 21 = .ok (.invokevirtual 274, 3) := by decide +kernel
theorem dX9_beforehand_24 : decode cX9_beforehand 24 = .ok (.iconst 0, 1) := by decide +kernel
theorem dX9_beforehand_25 : decode cX9_beforehand 25 = .ok (.istore_n 2, 1) := by decide +kernel
theorem dX9_beforehand_26 : decode cX9_beforehand 26 = .ok (.iconst 0, 1) := by decide +kernel
theorem dX9_beforehand_27 : decode cX9_beforehand 27 = .ok (.istore_n 3, 1) := by decide +kernel
theorem dX9_beforehand_28 : decode cX9_beforehand 28 = .ok (.iload_n 3, 1) := by decide +kernel
theorem dX9_beforehand_29 : decode cX9_beforehand 29 = .ok (.iload_n 1, 1) := by decide +kernel
theorem dX9_beforehand_30 : decode cX9_beforehand 30 = .ok (.if_icmp .gt 21, 3) := by decide +kernel
theorem dX9_beforehand_33 : decode cX9_beforehand 33 = .ok (.iload_n 2, 1) := by decide +kernel
theorem dX9_beforehand_34 : decode cX9_beforehand 34 = .ok (.ldc 107, 2) := by decide +kernel
theorem dX9_beforehand_36 : decode cX9_beforehand 36 = .ok (.if_icmp .eq 15, 3) := by decide +kernel
theorem dX9_beforehand_39 : decode cX9_beforehand 39 = .ok (.aload_n 0, 1) := by decide +kernel
theorem dX9_beforehand_40 : decode cX9_beforehand 40 = .ok (.iload_n 3, 1) := by decide +kernel
theorem dX9_beforehand_41 : decode cX9_beforehand 41 = .ok (.invokevirtual 299, 3) := by decide +kernel
theorem dX9_beforehand_44 : decode cX9_beforehand 44 = .ok (.istore_n 2, 1) := by decide +kernel
theorem dX9_beforehand_45 : decode cX9_beforehand 45 = .ok (.iinc 3 1, 3) := by decide +kernel
theorem dX9_beforehand_48 : decode cX9_beforehand 48 = .ok (.goto (-20), 3) := by decide +kernel
theorem dX9_beforehand_51 : decode cX9_beforehand 51 = .ok (.iload_n 2, 1) := by decide +kernel
theorem dX9_beforehand_52 : decode cX9_beforehand 52 = .ok (.ireturn, 1) := by decide +kernel
theorem dX9_flame_0 : decode cX9_flame 0 = .ok (.aload_n 0, 1) := by decide +kernel
theorem dX9_flame_1 : decode cX9_flame 1 = .ok (.getfield 46, 3) := by decide +kernel
theorem dX9_flame_4 : decode cX9_flame 4 = .ok (.bipush 24, 2) := by decide +kernel
theorem dX9_flame_6 : decode cX9_flame 6 = .ok (.iload_n 1, 1) := by decide +kernel
theorem dX9_flame_7 : decode cX9_flame 7 = .ok (.iadd, 1) := by decide +kernel
theorem dX9_flame_8 : decode cX9_flame 8 = .ok (.iaload, 1) := by decide +kernel
theorem dX9_flame_9 : decode cX9_flame 9 = .ok (.istore_n 3, 1) := by decide +kernel
theorem dX9_flame_10 : decode cX9_flame 10 = .ok (.aload_n 0, 1) := by decide +kernel
theorem dX9_flame_11 : decode cX9_flame 11 = .ok (.getfield 46, 3) := by decide +kernel
theorem dX9_flame_14 : decode cX9_flame 14 = .ok (.bipush 24, 2) := by decide +kernel
theorem dX9_flame_16 : decode cX9_flame 16 = .ok (.iload_n 1, 1) := by decide +kernel
theorem dX9_flame_17 : decode cX9_flame 17 = .ok (.iadd, 1) := by decide +kernel
theorem dX9_flame_18 : decode cX9_flame 18 = .ok (.iload_n 3, 1) := by decide +kernel
theorem dX9_flame_19 : decode cX9_flame 19 = .ok (.iload_n 2, 1) := by decide +kernel
theorem dX9_flame_20 : decode cX9_flame 20 = .ok (.if_icmp .le 9, 3) := by decide +kernel
theorem dX9_flame_23 : decode cX9_flame 23 = .ok (.iload_n 3, 1) := by decide +kernel
theorem dX9_flame_24 : decode cX9_flame 24 = .ok (.iload_n 2, 1) := by decide +kernel
theorem dX9_flame_25 : decode cX9_flame 25 = .ok (.isub, 1) := by decide +kernel
theorem dX9_flame_26 : decode cX9_flame 26 = .ok (.goto 16, 3) := by decide +kernel
theorem dX9_flame_29 : decode cX9_flame 29 = .ok (.iload_n 3, 1) := by decide +kernel
theorem dX9_flame_30 : decode cX9_flame 30 = .ok (.iload_n 2, 1) := by decide +kernel
theorem dX9_flame_31 : decode cX9_flame 31 = .ok (.ineg, 1) := by decide +kernel
theorem dX9_flame_32 : decode cX9_flame 32 = .ok (.if_icmp .ge 9, 3) := by decide +kernel
theorem dX9_flame_35 : decode cX9_flame 35 = .ok (.iload_n 3, 1) := by decide +kernel
theorem dX9_flame_36 : decode cX9_flame 36 = .ok (.iload_n 2, 1) := by decide +kernel
theorem dX9_flame_37 : decode cX9_flame 37 = .ok (.iadd, 1) := by decide +kernel
theorem dX9_flame_38 : decode cX9_flame 38 = .ok (.goto 4, 3) := by decide +kernel
theorem dX9_flame_41 : decode cX9_flame 41 = .ok (.iconst 0, 1) := by decide +kernel
theorem dX9_flame_42 : decode cX9_flame 42 = .ok (.iastore, 1) := by decide +kernel
theorem dX9_flame_43 : decode cX9_flame 43 = .ok (.iload_n 1, 1) := by decide +kernel
theorem dX9_flame_44 : decode cX9_flame 44 = .ok (.ifCond .le 18, 3) := by decide +kernel
theorem dX9_flame_47 : decode cX9_flame 47 = .ok (.aload_n 0, 1) := by decide +kernel
theorem dX9_flame_48 : decode cX9_flame 48 = .ok (.getfield 46, 3) := by decide +kernel
theorem dX9_flame_51 : decode cX9_flame 51 = .ok (.bipush 24, 2) := by decide +kernel
theorem dX9_flame_53 : decode cX9_flame 53 = .ok (.iload_n 1, 1) := by decide +kernel
theorem dX9_flame_54 : decode cX9_flame 54 = .ok (.iadd, 1) := by decide +kernel
theorem dX9_flame_55 : decode cX9_flame 55 = .ok (.iconst 1, 1) := by decide +kernel
theorem dX9_flame_56 : decode cX9_flame 56 = .ok (.isub, 1) := by decide +kernel
theorem dX9_flame_57 : decode cX9_flame 57 = .ok (.dup2, 1) := by decide +kernel
theorem dX9_flame_58 : decode cX9_flame 58 = .ok (.iaload, 1) := by decide +kernel
theorem dX9_flame_59 : decode cX9_flame 59 = .ok (.iconst 1, 1) := by decide +kernel
theorem dX9_flame_60 : decode cX9_flame 60 = .ok (.iadd, 1) := by decide +kernel
theorem dX9_flame_61 : decode cX9_flame 61 = .ok (.iastore, 1) := by decide +kernel
theorem dX9_flame_62 : decode cX9_flame 62 = .ok (.iload_n 1, 1) := by decide +kernel
theorem dX9_flame_63 : decode cX9_flame 63 = .ok (.aload_n 0, 1) := by decide +kernel
theorem dX9_flame_64 : decode cX9_flame 64 = .ok (.getfield 212, 3) := by decide +kernel
theorem dX9_flame_67 : decode cX9_flame 67 = .ok (.iconst 1, 1) := by decide +kernel
theorem dX9_flame_68 : decode cX9_flame 68 = .ok (.isub, 1) := by decide +kernel
theorem dX9_flame_69 : decode cX9_flame 69 = .ok (.if_icmp .ge 18, 3) := by decide +kernel
theorem dX9_flame_72 : decode cX9_flame 72 = .ok (.aload_n 0, 1) := by decide +kernel
theorem dX9_flame_73 : decode cX9_flame 73 = .ok (.getfield 46, 3) := by decide +kernel
theorem dX9_flame_76 : decode cX9_flame 76 = .ok (.bipush 24, 2) := by decide +kernel
theorem dX9_flame_78 : decode cX9_flame 78 = .ok (.iload_n 1, 1) := by decide +kernel
theorem dX9_flame_79 : decode cX9_flame 79 = .ok (.iadd, 1) := by decide +kernel
theorem dX9_flame_80 : decode cX9_flame 80 = .ok (.iconst 1, 1) := by decide +kernel
theorem dX9_flame_81 : decode cX9_flame 81 = .ok (.iadd, 1) := by decide +kernel
theorem dX9_flame_82 : decode cX9_flame 82 = .ok (.dup2, 1) := by decide +kernel
theorem dX9_flame_83 : decode cX9_flame 83 = .ok (.iaload, 1) := by decide +kernel
theorem dX9_flame_84 : decode cX9_flame 84 = .ok (.iconst 1, 1) := by decide +kernel
theorem dX9_flame_85 : decode cX9_flame 85 = .ok (.iadd, 1) := by decide +kernel
theorem dX9_flame_86 : decode cX9_flame 86 = .ok (.iastore, 1) := by decide +kernel
theorem dX9_flame_87 : decode cX9_flame 87 = .ok (.return_, 1) := by decide +kernel
theorem dX9_spots_0 : decode cX9_spots 0 = .ok (.aload_n 0, 1) := by decide +kernel
theorem dX9_spots_1 : decode cX9_spots 1 = .ok (.iconst 0, 1) := by decide +kernel
theorem dX9_spots_2 : decode cX9_spots 2 = .ok (.putfield 71, 3) := by decide +kernel
theorem dX9_spots_5 : decode cX9_spots 5 = .ok (.iload_n 1, 1) := by decide +kernel
theorem dX9_spots_6 : decode cX9_spots 6 = .ok (.i2l, 1) := by decide +kernel
theorem dX9_spots_7 : decode cX9_spots 7 = .ok (.lconst 1, 1) := by decide +kernel
theorem dX9_spots_8 : decode cX9_spots 8 = .ok (.ldc2_w 302, 3) := by decide +kernel
theorem dX9_spots_11 : decode cX9_spots 11 = .ok (.invokestatic 81, 3) := by decide +kernel
theorem dX9_spots_14 : decode cX9_spots 14 = .ok (.ifCond .eq 15, 3) := by decide +kernel
theorem dX9_spots_17 : decode cX9_spots 17 = .ok (.iload_n 2, 1) := by decide +kernel
theorem dX9_spots_18 : decode cX9_spots 18 = .ok (.i2l, 1) := by decide +kernel
theorem dX9_spots_19 : decode cX9_spots 19 = .ok (.lconst 0, 1) := by decide +kernel
theorem dX9_spots_20 : decode cX9_spots 20 = .ok (.ldc2_w 238, 3) := by decide +kernel
theorem dX9_spots_23 : decode cX9_spots 23 = .ok (.invokestatic 81, 3) := by decide +kernel
theorem dX9_spots_26 : decode cX9_spots 26 = .ok (.ifCond .ne 6, 3) := by decide +kernel
theorem dX9_spots_29 : decode cX9_spots 29 = .ok (.ldc 91, 2) := by decide +kernel
theorem dX9_spots_31 : decode cX9_spots 31 = .ok (.ireturn, 1) := by decide +kernel
theorem dX9_spots_32 : decode cX9_spots 32 = .ok (.aload_n 0, 1) := by decide +kernel
theorem dX9_spots_33 : decode cX9_spots 33 = .ok (.getfield 212, 3) := by decide +kernel
theorem dX9_spots_36 : decode cX9_spots 36 = .ok (.ifCond .ne 7, 3) := by decide +kernel
theorem dX9_spots_39 : decode cX9_spots 39 = .ok (.ldc_w 273, 3) := by decide +kernel
theorem dX9_spots_42 : decode cX9_spots 42 = .ok (.ireturn, 1) := by decide +kernel
theorem dX9_spots_43 : decode cX9_spots 43 = .ok (.iconst 0, 1) := by decide +kernel
theorem dX9_spots_44 : decode cX9_spots 44 = .ok (.istore_n 3, 1) := by decide +kernel
theorem dX9_spots_45 : decode cX9_spots 45 = .ok (.iload_n 3, 1) := by decide +kernel
theorem dX9_spots_46 : decode cX9_spots 46 = .ok (.iconst 4, 1) := by decide +kernel
theorem dX9_spots_47 : decode cX9_spots 47 = .ok (.if_icmp .ge 171, 3) := by decide +kernel
theorem dX9_spots_50 : decode cX9_spots 50 = .ok (.iconst 0, 1) := by decide +kernel
theorem dX9_spots_51 : decode cX9_spots 51 = .ok (.istore 4, 2) := by decide +kernel
theorem dX9_spots_53 : decode cX9_spots 53 = .ok (.iload 4, 2) := by decide +kernel
theorem dX9_spots_55 : decode cX9_spots 55 = .ok (.iconst 1, 1) := by decide +kernel
theorem dX9_spots_56 : decode cX9_spots 56 = .ok (.aload_n 0, 1) := by decide +kernel
theorem dX9_spots_57 : decode cX9_spots 57 = .ok (.getfield 212, 3) := by decide +kernel
theorem dX9_spots_60 : decode cX9_spots 60 = .ok (.ishl, 1) := by decide +kernel
theorem dX9_spots_61 : decode cX9_spots 61 = .ok (.if_icmp .ge 151, 3) := by decide +kernel
theorem dX9_spots_64 : decode cX9_spots 64 = .ok (.iconst 0, 1) := by decide +kernel
theorem dX9_spots_65 : decode cX9_spots 65 = .ok (.istore 5, 2) := by decide +kernel
theorem dX9_spots_67 : decode cX9_spots 67 = .ok (.iconst 0, 1) := by decide +kernel
theorem dX9_spots_68 : decode cX9_spots 68 = .ok (.istore 6, 2) := by decide +kernel
theorem dX9_spots_70 : decode cX9_spots 70 = .ok (.iload 6, 2) := by decide +kernel
theorem dX9_spots_72 : decode cX9_spots 72 = .ok (.aload_n 0, 1) := by decide +kernel
theorem dX9_spots_73 : decode cX9_spots 73 = .ok (.getfield 212, 3) := by decide +kernel
theorem dX9_spots_76 : decode cX9_spots 76 = .ok (.if_icmp .ge 21, 3) := by decide +kernel
theorem dX9_spots_79 : decode cX9_spots 79 = .ok (.iload 5, 2) := by decide +kernel
theorem dX9_spots_81 : decode cX9_spots 81 = .ok (.iload 4, 2) := by decide +kernel
theorem dX9_spots_83 : decode cX9_spots 83 = .ok (.iload 6, 2) := by decide +kernel
theorem dX9_spots_85 : decode cX9_spots 85 = .ok (.ishr, 1) := by decide +kernel
theorem dX9_spots_86 : decode cX9_spots 86 = .ok (.iconst 1, 1) := by decide +kernel
theorem dX9_spots_87 : decode cX9_spots 87 = .ok (.iand, 1) := by decide +kernel
theorem dX9_spots_88 : decode cX9_spots 88 = .ok (.iadd, 1) := by decide +kernel
theorem dX9_spots_89 : decode cX9_spots 89 = .ok (.istore 5, 2) := by decide +kernel
theorem dX9_spots_91 : decode cX9_spots 91 = .ok (.iinc 6 1, 3) := by decide +kernel
theorem dX9_spots_94 : decode cX9_spots 94 = .ok (.goto (-24), 3) := by decide +kernel
theorem dX9_spots_97 : decode cX9_spots 97 = .ok (.iload 5, 2) := by decide +kernel
theorem dX9_spots_99 : decode cX9_spots 99 = .ok (.iload_n 3, 1) := by decide +kernel
theorem dX9_spots_100 : decode cX9_spots 100 = .ok (.if_icmp .ne 106, 3) := by decide +kernel
theorem dX9_spots_103 : decode cX9_spots 103 = .ok (.aload_n 0, 1) := by decide +kernel
theorem dX9_spots_104 : decode cX9_spots 104 = .ok (.invokevirtual 289, 3) := by decide +kernel
theorem dX9_spots_107 : decode cX9_spots 107 = .ok (.iconst 1, 1) := by decide +kernel
theorem dX9_spots_108 : decode cX9_spots 108 = .ok (.istore 6, 2) := by decide +kernel
theorem dX9_spots_110 : decode cX9_spots 110 = .ok (.iconst 0, 1) := by decide +kernel
theorem dX9_spots_111 : decode cX9_spots 111 = .ok (.istore 7, 2) := by decide +kernel
theorem dX9_spots_113 : decode cX9_spots 113 = .ok (.iload 7, 2) := by decide +kernel
theorem dX9_spots_115 : decode cX9_spots 115 = .ok (.aload_n 0, 1) := by decide +kernel
theorem dX9_spots_116 : decode cX9_spots 116 = .ok (.getfield 212, 3) := by decide +kernel
theorem dX9_spots_119 : decode cX9_spots 119 = .ok (.if_icmp .ge 27, 3) := by decide +kernel
theorem dX9_spots_122 : decode cX9_spots 122 = .ok (.iload 4, 2) := by decide +kernel
theorem dX9_spots_124 : decode cX9_spots 124 = .ok (.iload 7, 2) := by decide +kernel
theorem dX9_spots_126 : decode cX9_spots 126 = .ok (.ishr, 1) := by decide +kernel
theorem dX9_spots_127 : decode cX9_spots 127 = .ok (.iconst 1, 1) := by decide +kernel
theorem dX9_spots_128 : decode cX9_spots 128 = .ok (.iand, 1) := by decide +kernel
theorem dX9_spots_129 : decode cX9_spots 129 = .ok (.iconst 1, 1) := by decide +kernel
theorem dX9_spots_130 : decode cX9_spots 130 = .ok (.if_icmp .ne 10, 3) := by decide +kernel
theorem dX9_spots_133 : decode cX9_spots 133 = .ok (.aload_n 0, 1) := by decide +kernel
theorem dX9_spots_134 : decode cX9_spots 134 = .ok (.iload 7, 2) := by decide +kernel
theorem dX9_spots_136 : decode cX9_spots 136 = .ok (.iload_n 1, 1) := by decide +kernel
theorem dX9_spots_137 : decode cX9_spots 137 = .ok (.invokevirtual 304, 3) := by decide +kernel
theorem dX9_spots_140 : decode cX9_spots 140 = .ok (.iinc 7 1, 3) := by decide +kernel
theorem dX9_spots_143 : decode cX9_spots 143 = .ok (.goto (-30), 3) := by decide +kernel
theorem dX9_spots_146 : decode cX9_spots 146 = .ok (.iconst 0, 1) := by decide +kernel
theorem dX9_spots_147 : decode cX9_spots 147 = .ok (.istore 7, 2) := by decide +kernel
theorem dX9_spots_149 : decode cX9_spots 149 = .ok (.iload 7, 2) := by decide +kernel
theorem dX9_spots_151 : decode cX9_spots 151 = .ok (.aload_n 0, 1) := by decide +kernel
theorem dX9_spots_152 : decode cX9_spots 152 = .ok (.getfield 212, 3) := by decide +kernel
theorem dX9_spots_155 : decode cX9_spots 155 = .ok (.if_icmp .ge 43, 3) := by decide +kernel
theorem dX9_spots_158 : decode cX9_spots 158 = .ok (.iload 6, 2) := by decide +kernel
theorem dX9_spots_160 : decode cX9_spots 160 = .ok (.ifCond .eq 29, 3) := by decide +kernel
theorem dX9_spots_163 : decode cX9_spots 163 = .ok (.aload_n 0, 1) := by decide +kernel
theorem dX9_spots_164 : decode cX9_spots 164 = .ok (.getfield 46, 3) := by decide +kernel
theorem dX9_spots_167 : decode cX9_spots 167 = .ok (.bipush 24, 2) := by decide +kernel
theorem dX9_spots_169 : decode cX9_spots 169 = .ok (.iload 7, 2) := by decide +kernel
theorem dX9_spots_171 : decode cX9_spots 171 = .ok (.iadd, 1) := by decide +kernel
theorem dX9_spots_172 : decode cX9_spots 172 = .ok (.iaload, 1) := by decide +kernel
theorem dX9_spots_173 : decode cX9_spots 173 = .ok (.i2l, 1) := by decide +kernel
theorem dX9_spots_174 : decode cX9_spots 174 = .ok (.iload_n 2, 1) := by decide +kernel
theorem dX9_spots_175 : decode cX9_spots 175 = .ok (.ineg, 1) := by decide +kernel
theorem dX9_spots_176 : decode cX9_spots 176 = .ok (.i2l, 1) := by decide +kernel
theorem dX9_spots_177 : decode cX9_spots 177 = .ok (.iload_n 2, 1) := by decide +kernel
theorem dX9_spots_178 : decode cX9_spots 178 = .ok (.i2l, 1) := by decide +kernel
theorem dX9_spots_179 : decode cX9_spots 179 = .ok (.invokestatic 81, 3) := by decide +kernel
theorem dX9_spots_182 : decode cX9_spots 182 = .ok (.ifCond .eq 7, 3) := by decide +kernel
theorem dX9_spots_185 : decode cX9_spots 185 = .ok (.iconst 1, 1) := by decide +kernel
theorem dX9_spots_186 : decode cX9_spots 186 = .ok (.goto 4, 3) := by decide +kernel
theorem dX9_spots_189 : decode cX9_spots 189 = .ok (.iconst 0, 1) := by decide +kernel
theorem dX9_spots_190 : decode cX9_spots 190 = .ok (.istore 6, 2) := by decide +kernel
theorem dX9_spots_192 : decode cX9_spots 192 = .ok (.iinc 7 1, 3) := by decide +kernel
theorem dX9_spots_195 : decode cX9_spots 195 = .ok (.goto (-46), 3) := by decide +kernel
theorem dX9_spots_198 : decode cX9_spots 198 = .ok (.iload 6, 2) := by decide +kernel
theorem dX9_spots_200 : decode cX9_spots 200 = .ok (.ifCond .eq 6, 3) := by decide +kernel
theorem dX9_spots_203 : decode cX9_spots 203 = .ok (.iload 4, 2) := by decide +kernel
theorem dX9_spots_205 : decode cX9_spots 205 = .ok (.ireturn, 1) := by decide +kernel
theorem dX9_spots_206 : decode cX9_spots 206 = .ok (.iinc 4 1, 3) := by decide +kernel
theorem dX9_spots_209 : decode cX9_spots 209 = .ok (.goto (-156), 3) := by decide +kernel
theorem dX9_spots_212 : decode cX9_spots 212 = .ok (.iinc 3 1, 3) := by decide +kernel
theorem dX9_spots_215 : decode cX9_spots 215 = .ok (.goto (-170), 3) := by decide +kernel
theorem dX9_spots_218 : decode cX9_spots 218 = .ok (.ldc 107, 2) := by decide +kernel
theorem dX9_spots_220 : decode cX9_spots 220 = .ok (.ireturn, 1) := by decide +kernel
theorem dX9_crackAt_0 : decode cX9_crackAt 0 = .ok (.aload_n 0, 1) := by decide +kernel
theorem dX9_crackAt_1 : decode cX9_crackAt 1 = .ok (.invokevirtual 289, 3) := by decide +kernel
theorem dX9_crackAt_4 : decode cX9_crackAt 4 = .ok (.iconst 0, 1) := by decide +kernel
theorem dX9_crackAt_5 : decode cX9_crackAt 5 = .ok (.istore_n 2, 1) := by decide +kernel
theorem dX9_crackAt_6 : decode cX9_crackAt 6 = .ok (.iload_n 2, 1) := by decide +kernel
theorem dX9_crackAt_7 : decode cX9_crackAt 7 = .ok (.aload_n 0, 1) := by decide +kernel
theorem dX9_crackAt_8 : decode cX9_crackAt 8 = .ok (.getfield 212, 3) := by decide +kernel
theorem dX9_crackAt_11 : decode cX9_crackAt 11 = .ok (.if_icmp .ge 30, 3) := by decide +kernel
theorem dX9_crackAt_14 : decode cX9_crackAt 14 = .ok (.aload_n 0, 1) := by decide +kernel
theorem dX9_crackAt_15 : decode cX9_crackAt 15 = .ok (.getfield 46, 3) := by decide +kernel
theorem dX9_crackAt_18 : decode cX9_crackAt 18 = .ok (.bipush 36, 2) := by decide +kernel
theorem dX9_crackAt_20 : decode cX9_crackAt 20 = .ok (.iload_n 2, 1) := by decide +kernel
theorem dX9_crackAt_21 : decode cX9_crackAt 21 = .ok (.iadd, 1) := by decide +kernel
theorem dX9_crackAt_22 : decode cX9_crackAt 22 = .ok (.iaload, 1) := by decide +kernel
theorem dX9_crackAt_23 : decode cX9_crackAt 23 = .ok (.sipush 300, 3) := by decide +kernel
theorem dX9_crackAt_26 : decode cX9_crackAt 26 = .ok (.iconst 4, 1) := by decide +kernel
theorem dX9_crackAt_27 : decode cX9_crackAt 27 = .ok (.iload_n 1, 1) := by decide +kernel
theorem dX9_crackAt_28 : decode cX9_crackAt 28 = .ok (.imul, 1) := by decide +kernel
theorem dX9_crackAt_29 : decode cX9_crackAt 29 = .ok (.isub, 1) := by decide +kernel
theorem dX9_crackAt_30 : decode cX9_crackAt 30 = .ok (.if_icmp .le 5, 3) := by decide +kernel
theorem dX9_crackAt_33 : decode cX9_crackAt 33 = .ok (.iload_n 2, 1) := by decide +kernel
theorem dX9_crackAt_34 : decode cX9_crackAt 34 = .ok (.ireturn, 1) := by decide +kernel
theorem dX9_crackAt_35 : decode cX9_crackAt 35 = .ok (.iinc 2 1, 3) := by decide +kernel
theorem dX9_crackAt_38 : decode cX9_crackAt 38 = .ok (.goto (-32), 3) := by decide +kernel
theorem dX9_crackAt_41 : decode cX9_crackAt 41 = .ok (.ldc 107, 2) := by decide +kernel
theorem dX9_crackAt_43 : decode cX9_crackAt 43 = .ok (.ireturn, 1) := by decide +kernel
theorem dX9_crack_0 : decode cX9_crack 0 = .ok (.aload_n 0, 1) := by decide +kernel
theorem dX9_crack_1 : decode cX9_crack 1 = .ok (.iconst 0, 1) := by decide +kernel
theorem dX9_crack_2 : decode cX9_crack 2 = .ok (.putfield 71, 3) := by decide +kernel
theorem dX9_crack_5 : decode cX9_crack 5 = .ok (.iload_n 1, 1) := by decide +kernel
theorem dX9_crack_6 : decode cX9_crack 6 = .ok (.i2l, 1) := by decide +kernel
theorem dX9_crack_7 : decode cX9_crack 7 = .ok (.lconst 0, 1) := by decide +kernel
theorem dX9_crack_8 : decode cX9_crack 8 = .ok (.ldc2_w 308, 3) := by decide +kernel
theorem dX9_crack_11 : decode cX9_crack 11 = .ok (.invokestatic 81, 3) := by decide +kernel
theorem dX9_crack_14 : decode cX9_crack 14 = .ok (.ifCond .eq 11, 3) := by decide +kernel
theorem dX9_crack_17 : decode cX9_crack 17 = .ok (.aload_n 0, 1) := by decide +kernel
theorem dX9_crack_18 : decode cX9_crack 18 = .ok (.iload_n 1, 1) := by decide +kernel
theorem dX9_crack_19 : decode cX9_crack 19 = .ok (.invokevirtual 310, 3) := by decide +kernel
theorem dX9_crack_22 : decode cX9_crack 22 = .ok (.goto 5, 3) := by decide +kernel
theorem dX9_crack_25 : decode cX9_crack 25 = .ok (.ldc 91, 2) := by decide +kernel
theorem dX9_crack_27 : decode cX9_crack 27 = .ok (.ireturn, 1) := by decide +kernel
theorem dX9_warm_0 : decode cX9_warm 0 = .ok (.aload_n 0, 1) := by decide +kernel
theorem dX9_warm_1 : decode cX9_warm 1 = .ok (.iconst 0, 1) := by decide +kernel
theorem dX9_warm_2 : decode cX9_warm 2 = .ok (.putfield 71, 3) := by decide +kernel
theorem dX9_warm_5 : decode cX9_warm 5 = .ok (.aload_n 0, 1) := by decide +kernel
theorem dX9_warm_6 : decode cX9_warm 6 = .ok (.getfield 212, 3) := by decide +kernel
theorem dX9_warm_9 : decode cX9_warm 9 = .ok (.ifCond .ne 7, 3) := by decide +kernel
theorem dX9_warm_12 : decode cX9_warm 12 = .ok (.ldc_w 273, 3) := by decide +kernel
theorem dX9_warm_15 : decode cX9_warm 15 = .ok (.ireturn, 1) := by decide +kernel
theorem dX9_warm_16 : decode cX9_warm 16 = .ok (.bipush 60, 2) := by decide +kernel
theorem dX9_warm_18 : decode cX9_warm 18 = .ok (.istore_n 1, 1) := by decide +kernel
theorem dX9_warm_19 : decode cX9_warm 19 = .ok (.iload_n 1, 1) := by decide +kernel
theorem dX9_warm_20 : decode cX9_warm 20 = .ok (.ifCond .lt 19, 3) := by decide +kernel
theorem dX9_warm_23 : decode cX9_warm 23 = .ok (.aload_n 0, 1) := by decide +kernel
theorem dX9_warm_24 : decode cX9_warm 24 = .ok (.iload_n 1, 1) := by decide +kernel
theorem dX9_warm_25 : decode cX9_warm 25 = .ok (.invokevirtual 310, 3) := by decide +kernel
theorem dX9_warm_28 : decode cX9_warm 28 = .ok (.ldc 107, 2) := by decide +kernel
theorem dX9_warm_30 : decode cX9_warm 30 = .ok (.if_icmp .eq 9, 3) := by decide +kernel
theorem dX9_warm_33 : decode cX9_warm 33 = .ok (.iinc 1 (-1), 3) := by decide +kernel
theorem dX9_warm_36 : decode cX9_warm 36 = .ok (.goto (-17), 3) := by decide +kernel
theorem dX9_warm_39 : decode cX9_warm 39 = .ok (.iload_n 1, 1) := by decide +kernel
theorem dX9_warm_40 : decode cX9_warm 40 = .ok (.ifCond .ge 8, 3) := by decide +kernel
theorem dX9_warm_43 : decode cX9_warm 43 = .ok (.ldc 107, 2) := by decide +kernel
theorem dX9_warm_45 : decode cX9_warm 45 = .ok (.goto 4, 3) := by decide +kernel
theorem dX9_warm_48 : decode cX9_warm 48 = .ok (.iload_n 1, 1) := by decide +kernel
theorem dX9_warm_49 : decode cX9_warm 49 = .ok (.ireturn, 1) := by decide +kernel
theorem dX9_bendBy_0 : decode cX9_bendBy 0 = .ok (.aload_n 0, 1) := by decide +kernel
theorem dX9_bendBy_1 : decode cX9_bendBy 1 = .ok (.getfield 16, 3) := by decide +kernel
theorem dX9_bendBy_4 : decode cX9_bendBy 4 = .ok (.iload_n 1, 1) := by decide +kernel
theorem dX9_bendBy_5 : decode cX9_bendBy 5 = .ok (.iload_n 2, 1) := by decide +kernel
theorem dX9_bendBy_6 : decode cX9_bendBy 6 = .ok (.iadd, 1) := by decide +kernel
theorem dX9_bendBy_7 : decode cX9_bendBy 7 = .ok (.iconst 1, 1) := by decide +kernel
theorem dX9_bendBy_8 : decode cX9_bendBy 8 = .ok (.iadd, 1) := by decide +kernel
theorem dX9_bendBy_9 : decode cX9_bendBy 9 = .ok (.iaload, 1) := by decide +kernel
theorem dX9_bendBy_10 : decode cX9_bendBy 10 = .ok (.aload_n 0, 1) := by decide +kernel
theorem dX9_bendBy_11 : decode cX9_bendBy 11 = .ok (.getfield 16, 3) := by decide +kernel
theorem dX9_bendBy_14 : decode cX9_bendBy 14 = .ok (.iload_n 1, 1) := by decide +kernel
theorem dX9_bendBy_15 : decode cX9_bendBy 15 = .ok (.iload_n 2, 1) := by decide +kernel
theorem dX9_bendBy_16 : decode cX9_bendBy 16 = .ok (.iadd, 1) := by decide +kernel
theorem dX9_bendBy_17 : decode cX9_bendBy 17 = .ok (.iaload, 1) := by decide +kernel
theorem dX9_bendBy_18 : decode cX9_bendBy 18 = .ok (.isub, 1) := by decide +kernel
theorem dX9_bendBy_19 : decode cX9_bendBy 19 = .ok (.istore_n 3, 1) := by decide +kernel
theorem dX9_bendBy_20 : decode cX9_bendBy 20 = .ok (.iload_n 2, 1) := by decide +kernel
theorem dX9_bendBy_21 : decode cX9_bendBy 21 = .ok (.ifCond .ne 7, 3) := by decide +kernel
theorem dX9_bendBy_24 : decode cX9_bendBy 24 = .ok (.iload_n 3, 1) := by decide +kernel
theorem dX9_bendBy_25 : decode cX9_bendBy 25 = .ok (.goto 24, 3) := by decide +kernel
theorem dX9_bendBy_28 : decode cX9_bendBy 28 = .ok (.iload_n 3, 1) := by decide +kernel
theorem dX9_bendBy_29 : decode cX9_bendBy 29 = .ok (.aload_n 0, 1) := by decide +kernel
theorem dX9_bendBy_30 : decode cX9_bendBy 30 = .ok (.getfield 16, 3) := by decide +kernel
theorem dX9_bendBy_33 : decode cX9_bendBy 33 = .ok (.iload_n 1, 1) := by decide +kernel
theorem dX9_bendBy_34 : decode cX9_bendBy 34 = .ok (.iload_n 2, 1) := by decide +kernel
theorem dX9_bendBy_35 : decode cX9_bendBy 35 = .ok (.iadd, 1) := by decide +kernel
theorem dX9_bendBy_36 : decode cX9_bendBy 36 = .ok (.iaload, 1) := by decide +kernel
theorem dX9_bendBy_37 : decode cX9_bendBy 37 = .ok (.aload_n 0, 1) := by decide +kernel
theorem dX9_bendBy_38 : decode cX9_bendBy 38 = .ok (.getfield 16, 3) := by decide +kernel
theorem dX9_bendBy_41 : decode cX9_bendBy 41 = .ok (.iload_n 1, 1) := by decide +kernel
theorem dX9_bendBy_42 : decode cX9_bendBy 42 = .ok (.iload_n 2, 1) := by decide +kernel
theorem dX9_bendBy_43 : decode cX9_bendBy 43 = .ok (.iadd, 1) := by decide +kernel
theorem dX9_bendBy_44 : decode cX9_bendBy 44 = .ok (.iconst 1, 1) := by decide +kernel
theorem dX9_bendBy_45 : decode cX9_bendBy 45 = .ok (.isub, 1) := by decide +kernel
theorem dX9_bendBy_46 : decode cX9_bendBy 46 = .ok (.iaload, 1) := by decide +kernel
theorem dX9_bendBy_47 : decode cX9_bendBy 47 = .ok (.isub, 1) := by decide +kernel
theorem dX9_bendBy_48 : decode cX9_bendBy 48 = .ok (.isub, 1) := by decide +kernel
theorem dX9_bendBy_49 : decode cX9_bendBy 49 = .ok (.ireturn, 1) := by decide +kernel
theorem dX9_wire_0 : decode cX9_wire 0 = .ok (.aload_n 0, 1) := by decide +kernel
theorem dX9_wire_1 : decode cX9_wire 1 = .ok (.iconst 0, 1) := by decide +kernel
theorem dX9_wire_2 : decode cX9_wire 2 = .ok (.putfield 71, 3) := by decide +kernel
theorem dX9_wire_5 : decode cX9_wire 5 = .ok (.iload_n 1, 1) := by decide +kernel
theorem dX9_wire_6 : decode cX9_wire 6 = .ok (.invokestatic 85, 3) := by decide +kernel
theorem dX9_wire_9 : decode cX9_wire 9 = .ok (.ifCond .ne 6, 3) := by decide +kernel
theorem dX9_wire_12 : decode cX9_wire 12 = .ok (.ldc 91, 2) := by decide +kernel
theorem dX9_wire_14 : decode cX9_wire 14 = .ok (.ireturn, 1) := by decide +kernel
theorem dX9_wire_15 : decode cX9_wire 15 = .ok (.aload_n 0, 1) := by decide +kernel
theorem dX9_wire_16 : decode cX9_wire 16 = .ok (.getfield 212, 3) := by decide +kernel
theorem dX9_wire_19 : decode cX9_wire 19 = .ok (.ifCond .ne 7, 3) := by decide +kernel
theorem dX9_wire_22 : decode cX9_wire 22 = .ok (.ldc_w 273, 3) := by decide +kernel
theorem dX9_wire_25 : decode cX9_wire 25 = .ok (.ireturn, 1) := by decide +kernel
theorem dX9_wire_26 : decode cX9_wire 26 = .ok (.iload_n 3, 1) := by decide +kernel
theorem dX9_wire_27 : decode cX9_wire 27 = .ok (.i2l, 1) := by decide +kernel
theorem dX9_wire_28 : decode cX9_wire 28 = .ok (.ldc2_w 313, 3) := by decide +kernel
theorem dX9_wire_31 : decode cX9_wire 31 = .ok (.aload_n 0, 1) := by decide +kernel
theorem dX9_wire_32 : decode cX9_wire 32 = .ok (.getfield 212, 3) := by decide +kernel
theorem dX9_wire_35 : decode cX9_wire 35 = .ok (.iconst 1, 1) := by decide +kernel
theorem dX9_wire_36 : decode cX9_wire 36 = .ok (.isub, 1) := by decide +kernel
theorem dX9_wire_37 : decode cX9_wire 37 = .ok (.i2l, 1) := by decide +kernel
theorem dX9_wire_38 : decode cX9_wire 38 = .ok (.invokestatic 81, 3) := by decide +kernel
theorem dX9_wire_41 : decode cX9_wire 41 = .ok (.ifCond .ne 6, 3) := by decide +kernel
theorem dX9_wire_44 : decode cX9_wire 44 = .ok (.ldc 91, 2) := by decide +kernel
theorem dX9_wire_46 : decode cX9_wire 46 = .ok (.ireturn, 1) := by decide +kernel
theorem dX9_wire_47 : decode cX9_wire 47 = .ok (.aload_n 0, 1) := by decide +kernel
theorem dX9_wire_48 : decode cX9_wire 48 = .ok (.getfield 7, 3) := by decide +kernel
theorem dX9_wire_51 : decode cX9_wire 51 = .ok (.iload_n 1, 1) := by decide +kernel
theorem dX9_wire_52 : decode cX9_wire 52 = .ok (.iaload, 1) := by decide +kernel
theorem dX9_wire_53 : decode cX9_wire 53 = .ok (.ifCond .ge 9, 3) := by decide +kernel
theorem dX9_wire_56 : decode cX9_wire 56 = .ok (.aload_n 0, 1) := by decide +kernel
theorem dX9_wire_57 : decode cX9_wire 57 = .ok (.iconst 1, 1) := by decide +kernel
theorem dX9_wire_58 : decode cX9_wire 58 = .ok (.invokevirtual 92, 3) := by decide +kernel
theorem dX9_wire_61 : decode cX9_wire 61 = .ok (.ireturn, 1) := by decide +kernel
theorem dX9_wire_62 : decode cX9_wire 62 = .ok (.iload_n 2, 1) := by decide +kernel
theorem dX9_wire_63 : decode cX9_wire 63 = .ok (.ifCond .lt 24, 3) := by decide +kernel
theorem dX9_wire_66 : decode cX9_wire 66 = .ok (.iload_n 2, 1) := by decide +kernel
theorem dX9_wire_67 : decode cX9_wire 67 = .ok (.i2l, 1) := by decide +kernel
theorem dX9_wire_68 : decode cX9_wire 68 = .ok (.aload_n 0, 1) := by decide +kernel
theorem dX9_wire_69 : decode cX9_wire 69 = .ok (.getfield 212, 3) := by decide +kernel
theorem dX9_wire_72 : decode cX9_wire 72 = .ok (.i2l, 1) := by decide +kernel
theorem dX9_wire_73 : decode cX9_wire 73 = .ok (.ladd, 1) := by decide +kernel
theorem dX9_wire_74 : decode cX9_wire 74 = .ok (.lconst 1, 1) := by decide +kernel
theorem dX9_wire_75 : decode cX9_wire 75 = .ok (.ladd, 1) := by decide +kernel
theorem dX9_wire_76 : decode cX9_wire 76 = .ok (.aload_n 0, 1) := by decide +kernel
theorem dX9_wire_77 : decode cX9_wire 77 = .ok (.getfield 13, 3) := by decide +kernel
theorem dX9_wire_80 : decode cX9_wire 80 = .ok (.iload_n 1, 1) := by decide +kernel
theorem dX9_wire_81 : decode cX9_wire 81 = .ok (.iaload, 1) := by decide +kernel
theorem dX9_wire_82 : decode cX9_wire 82 = .ok (.i2l, 1) := by decide +kernel
theorem dX9_wire_83 : decode cX9_wire 83 = .ok (.lcmp, 1) := by decide +kernel
theorem dX9_wire_84 : decode cX9_wire 84 = .ok (.ifCond .le 9, 3) := by decide +kernel
theorem dX9_wire_87 : decode cX9_wire 87 = .ok (.aload_n 0, 1) := by decide +kernel
theorem dX9_wire_88 : decode cX9_wire 88 = .ok (.iconst 2, 1) := by decide +kernel
theorem dX9_wire_89 : decode cX9_wire 89 = .ok (.invokevirtual 92, 3) := by decide +kernel
theorem dX9_wire_92 : decode cX9_wire 92 = .ok (.ireturn, 1) := by decide +kernel
theorem dX9_wire_93 : decode cX9_wire 93 = .ok (.bipush 40, 2) := by decide +kernel
theorem dX9_wire_95 : decode cX9_wire 95 = .ok (.iload_n 1, 1) := by decide +kernel
theorem dX9_wire_96 : decode cX9_wire 96 = .ok (.imul, 1) := by decide +kernel
theorem dX9_wire_97 : decode cX9_wire 97 = .ok (.iload_n 2, 1) := by decide +kernel
theorem dX9_wire_98 : decode cX9_wire 98 = .ok (.iadd, 1) := by decide +kernel
theorem dX9_wire_99 : decode cX9_wire 99 = .ok (.istore 4, 2) := by decide +kernel
theorem dX9_wire_101 : decode cX9_wire 101 = .ok (.iconst 0, 1) := by decide +kernel
theorem dX9_wire_102 : decode cX9_wire 102 = .ok (.istore 5, 2) := by decide +kernel
theorem dX9_wire_104 : decode cX9_wire 104 = .ok (.iload 5, 2) := by decide +kernel
theorem dX9_wire_106 : decode cX9_wire 106 = .ok (.aload_n 0, 1) := by decide +kernel
theorem dX9_wire_107 : decode cX9_wire 107 = .ok (.getfield 212, 3) := by decide +kernel
theorem dX9_wire_110 : decode cX9_wire 110 = .ok (.if_icmp .gt 35, 3) := by decide +kernel
theorem dX9_wire_113 : decode cX9_wire 113 = .ok (.aload_n 0, 1) := by decide +kernel
theorem dX9_wire_114 : decode cX9_wire 114 = .ok (.getfield 16, 3) := by decide +kernel
theorem dX9_wire_117 : decode cX9_wire 117 = .ok (.iload 4, 2) := by decide +kernel
theorem dX9_wire_119 : decode cX9_wire 119 = .ok (.iload 5, 2) := by decide +kernel
theorem dX9_wire_121 : decode cX9_wire 121 = .ok (.iadd, 1) := by decide +kernel
theorem dX9_wire_122 : decode cX9_wire 122 = .ok (.iaload, 1) := by decide +kernel
theorem dX9_wire_123 : decode cX9_wire 123 = .ok (.i2l, 1) := by decide +kernel
theorem dX9_wire_124 : decode cX9_wire 124 = .ok (.ldc2_w 315, 3) := by decide +kernel
theorem dX9_wire_127 : decode cX9_wire 127 = .ok (.ldc2_w 317, 3) := by decide +kernel
end
section
theorem dX9_wire_130 : decode cX9_wire 130 = .ok (.invokestatic 81, 3) := by decide +kernel
theorem dX9_wire_133 : decode cX9_wire 133 = .ok (.ifCond .ne 6, 3) := by decide +kernel
theorem dX9_wire_136 : decode cX9_wire 136 = .ok (.ldc 91, 2) := by decide +kernel
theorem dX9_wire_138 : decode cX9_wire 138 = .ok (.ireturn, 1) := by decide +kernel
theorem dX9_wire_139 : decode cX9_wire 139 = .ok (.iinc 5 1, 3) := by decide +kernel
theorem dX9_wire_142 : decode cX9_wire 142 = .ok (.goto (-38), 3) := by decide +kernel
theorem dX9_wire_145 : decode cX9_wire 145 = .ok (.aload_n 0, 1) := by decide +kernel
theorem dX9_wire_146 : decode cX9_wire 146 = .ok (.iconst 0, 1) := by decide +kernel
theorem dX9_wire_147 : decode cX9_wire 147 = .ok (.putfield 75, 3) := by decide +kernel
theorem dX9_wire_150 : decode cX9_wire 150 = .ok (.iload_n 3, 1) := by decide +kernel
theorem dX9_wire_151 : decode cX9_wire 151 = .ok (.ifCond .lt 11, 3) := by decide +kernel
theorem dX9_wire_154 : decode cX9_wire 154 = .ok (.aload_n 0, 1) := by decide +kernel
theorem dX9_wire_155 : decode cX9_wire 155 = .ok (.iload 4, 2) := by decide +kernel
theorem dX9_wire_157 : decode cX9_wire 157 = .ok (.iload_n 3, 1) := by decide +kernel
theorem dX9_wire_158 : decode cX9_wire 158 = .ok (.invokevirtual 319, 3) := by decide +kernel
theorem dX9_wire_161 : decode cX9_wire 161 = .ok (.ireturn, 1) := by decide +kernel
theorem dX9_wire_162 : decode cX9_wire 162 = .ok (.aload_n 0, 1) := by decide +kernel
theorem dX9_wire_163 : decode cX9_wire 163 = .ok (.invokevirtual 289, 3) := by decide +kernel
theorem dX9_wire_166 : decode cX9_wire 166 = .ok (.iconst 1, 1) := by decide +kernel
theorem dX9_wire_167 : decode cX9_wire 167 = .ok (.istore 5, 2) := by decide +kernel
theorem dX9_wire_169 : decode cX9_wire 169 = .ok (.iload 5, 2) := by decide +kernel
theorem dX9_wire_171 : decode cX9_wire 171 = .ok (.bipush 10, 2) := by decide +kernel
theorem dX9_wire_173 : decode cX9_wire 173 = .ok (.if_icmp .ge 76, 3) := by decide +kernel
theorem dX9_wire_176 : decode cX9_wire 176 = .ok (.iconst 1, 1) := by decide +kernel
theorem dX9_wire_177 : decode cX9_wire 177 = .ok (.istore 6, 2) := by decide +kernel
theorem dX9_wire_179 : decode cX9_wire 179 = .ok (.iconst 0, 1) := by decide +kernel
theorem dX9_wire_180 : decode cX9_wire 180 = .ok (.istore 7, 2) := by decide +kernel
theorem dX9_wire_182 : decode cX9_wire 182 = .ok (.iload 7, 2) := by decide +kernel
theorem dX9_wire_184 : decode cX9_wire 184 = .ok (.aload_n 0, 1) := by decide +kernel
theorem dX9_wire_185 : decode cX9_wire 185 = .ok (.getfield 212, 3) := by decide +kernel
theorem dX9_wire_188 : decode cX9_wire 188 = .ok (.if_icmp .ge 47, 3) := by decide +kernel
theorem dX9_wire_191 : decode cX9_wire 191 = .ok (.iload 6, 2) := by decide +kernel
theorem dX9_wire_193 : decode cX9_wire 193 = .ok (.ifCond .eq 33, 3) := by decide +kernel
theorem dX9_wire_196 : decode cX9_wire 196 = .ok (.aload_n 0, 1) := by decide +kernel
theorem dX9_wire_197 : decode cX9_wire 197 = .ok (.iload 4, 2) := by decide +kernel
theorem dX9_wire_199 : decode cX9_wire 199 = .ok (.iload 7, 2) := by decide +kernel
theorem dX9_wire_201 : decode cX9_wire 201 = .ok (.invokevirtual 319, 3) := by decide +kernel
theorem dX9_wire_204 : decode cX9_wire 204 = .ok (.iload 5, 2) := by decide +kernel
theorem dX9_wire_206 : decode cX9_wire 206 = .ok (.aload_n 0, 1) := by decide +kernel
theorem dX9_wire_207 : decode cX9_wire 207 = .ok (.getfield 46, 3) := by decide +kernel
theorem dX9_wire_210 : decode cX9_wire 210 = .ok (.bipush 24, 2) := by decide +kernel
theorem dX9_wire_212 : decode cX9_wire 212 = .ok (.iload 7, 2) := by decide +kernel
theorem dX9_wire_214 : decode cX9_wire 214 = .ok (.iadd, 1) := by decide +kernel
theorem dX9_wire_215 : decode cX9_wire 215 = .ok (.iaload, 1) := by decide +kernel
theorem dX9_wire_216 : decode cX9_wire 216 = .ok (.imul, 1) := by decide +kernel
theorem dX9_wire_217 : decode cX9_wire 217 = .ok (.iconst 4, 1) := by decide +kernel
theorem dX9_wire_218 : decode cX9_wire 218 = .ok (.idiv, 1) := by decide +kernel
theorem dX9_wire_219 : decode cX9_wire 219 = .ok (.if_icmp .ne 7, 3) := by decide +kernel
theorem dX9_wire_222 : decode cX9_wire 222 = .ok (.iconst 1, 1) := by decide +kernel
theorem dX9_wire_223 : decode cX9_wire 223 = .ok (.goto 4, 3) := by decide +kernel
theorem dX9_wire_226 : decode cX9_wire 226 = .ok (.iconst 0, 1) := by decide +kernel
theorem dX9_wire_227 : decode cX9_wire 227 = .ok (.istore 6, 2) := by decide +kernel
theorem dX9_wire_229 : decode cX9_wire 229 = .ok (.iinc 7 1, 3) := by decide +kernel
theorem dX9_wire_232 : decode cX9_wire 232 = .ok (.goto (-50), 3) := by decide +kernel
theorem dX9_wire_235 : decode cX9_wire 235 = .ok (.iload 6, 2) := by decide +kernel
theorem dX9_wire_237 : decode cX9_wire 237 = .ok (.ifCond .eq 6, 3) := by decide +kernel
theorem dX9_wire_240 : decode cX9_wire 240 = .ok (.iload 5, 2) := by decide +kernel
theorem dX9_wire_242 : decode cX9_wire 242 = .ok (.ireturn, 1) := by decide +kernel
theorem dX9_wire_243 : decode cX9_wire 243 = .ok (.iinc 5 1, 3) := by decide +kernel
theorem dX9_wire_246 : decode cX9_wire 246 = .ok (.goto (-77), 3) := by decide +kernel
theorem dX9_wire_249 : decode cX9_wire 249 = .ok (.ldc 107, 2) := by decide +kernel
theorem dX9_wire_251 : decode cX9_wire 251 = .ok (.ireturn, 1) := by decide +kernel
theorem dX9_isStep_0 : decode cX9_isStep 0 = .ok (.aload_n 0, 1) := by decide +kernel
theorem dX9_isStep_1 : decode cX9_isStep 1 = .ok (.iload_n 1, 1) := by decide +kernel
theorem dX9_isStep_2 : decode cX9_isStep 2 = .ok (.invokevirtual 228, 3) := by decide +kernel
theorem dX9_isStep_5 : decode cX9_isStep 5 = .ok (.ifCond .eq 20, 3) := by decide +kernel
theorem dX9_isStep_8 : decode cX9_isStep 8 = .ok (.aload_n 0, 1) := by decide +kernel
theorem dX9_isStep_9 : decode cX9_isStep 9 = .ok (.getfield 19, 3) := by decide +kernel
theorem dX9_isStep_12 : decode cX9_isStep 12 = .ok (.iconst 4, 1) := by decide +kernel
theorem dX9_isStep_13 : decode cX9_isStep 13 = .ok (.iload_n 1, 1) := by decide +kernel
theorem dX9_isStep_14 : decode cX9_isStep 14 = .ok (.imul, 1) := by decide +kernel
theorem dX9_isStep_15 : decode cX9_isStep 15 = .ok (.iaload, 1) := by decide +kernel
theorem dX9_isStep_16 : decode cX9_isStep 16 = .ok (.bipush 8, 2) := by decide +kernel
theorem dX9_isStep_18 : decode cX9_isStep 18 = .ok (.if_icmp .ge 7, 3) := by decide +kernel
theorem dX9_isStep_21 : decode cX9_isStep 21 = .ok (.iconst 1, 1) := by decide +kernel
theorem dX9_isStep_22 : decode cX9_isStep 22 = .ok (.goto 4, 3) := by decide +kernel
theorem dX9_isStep_25 : decode cX9_isStep 25 = .ok (.iconst 0, 1) := by decide +kernel
theorem dX9_isStep_26 : decode cX9_isStep 26 = .ok (.ireturn, 1) := by decide +kernel
theorem dX9_isOf_0 : decode cX9_isOf 0 = .ok (.iload_n 1, 1) := by decide +kernel
theorem dX9_isOf_1 : decode cX9_isOf 1 = .ok (.ifCond .eq 37, 3) := by decide +kernel
theorem dX9_isOf_4 : decode cX9_isOf 4 = .ok (.iload_n 0, 1) := by decide +kernel
theorem dX9_isOf_5 : decode cX9_isOf 5 = .ok (.iload_n 1, 1) := by decide +kernel
theorem dX9_isOf_6 : decode cX9_isOf 6 = .ok (.if_icmp .eq 32, 3) := by decide +kernel
theorem dX9_isOf_9 : decode cX9_isOf 9 = .ok (.iload_n 1, 1) := by decide +kernel
theorem dX9_isOf_10 : decode cX9_isOf 10 = .ok (.iconst 2, 1) := by decide +kernel
theorem dX9_isOf_11 : decode cX9_isOf 11 = .ok (.if_icmp .ne 17, 3) := by decide +kernel
theorem dX9_isOf_14 : decode cX9_isOf 14 = .ok (.iload_n 0, 1) := by decide +kernel
theorem dX9_isOf_15 : decode cX9_isOf 15 = .ok (.i2l, 1) := by decide +kernel
theorem dX9_isOf_16 : decode cX9_isOf 16 = .ok (.ldc2_w 231, 3) := by decide +kernel
theorem dX9_isOf_19 : decode cX9_isOf 19 = .ok (.ldc2_w 323, 3) := by decide +kernel
theorem dX9_isOf_22 : decode cX9_isOf 22 = .ok (.invokestatic 81, 3) := by decide +kernel
theorem dX9_isOf_25 : decode cX9_isOf 25 = .ok (.ifCond .ne 13, 3) := by decide +kernel
theorem dX9_isOf_28 : decode cX9_isOf 28 = .ok (.iload_n 1, 1) := by decide +kernel
theorem dX9_isOf_29 : decode cX9_isOf 29 = .ok (.iconst 3, 1) := by decide +kernel
theorem dX9_isOf_30 : decode cX9_isOf 30 = .ok (.if_icmp .ne 12, 3) := by decide +kernel
theorem dX9_isOf_33 : decode cX9_isOf 33 = .ok (.iload_n 0, 1) := by decide +kernel
theorem dX9_isOf_34 : decode cX9_isOf 34 = .ok (.iconst 4, 1) := by decide +kernel
theorem dX9_isOf_35 : decode cX9_isOf 35 = .ok (.if_icmp .ne 7, 3) := by decide +kernel
theorem dX9_isOf_38 : decode cX9_isOf 38 = .ok (.iconst 1, 1) := by decide +kernel
theorem dX9_isOf_39 : decode cX9_isOf 39 = .ok (.goto 4, 3) := by decide +kernel
theorem dX9_isOf_42 : decode cX9_isOf 42 = .ok (.iconst 0, 1) := by decide +kernel
theorem dX9_isOf_43 : decode cX9_isOf 43 = .ok (.ireturn, 1) := by decide +kernel
theorem dX9_kind_0 : decode cX9_kind 0 = .ok (.aload_n 0, 1) := by decide +kernel
theorem dX9_kind_1 : decode cX9_kind 1 = .ok (.iconst 0, 1) := by decide +kernel
theorem dX9_kind_2 : decode cX9_kind 2 = .ok (.putfield 71, 3) := by decide +kernel
theorem dX9_kind_5 : decode cX9_kind 5 = .ok (.aload_n 0, 1) := by decide +kernel
theorem dX9_kind_6 : decode cX9_kind 6 = .ok (.iload_n 1, 1) := by decide +kernel
theorem dX9_kind_7 : decode cX9_kind 7 = .ok (.invokevirtual 325, 3) := by decide +kernel
theorem dX9_kind_10 : decode cX9_kind 10 = .ok (.ifCond .eq 14, 3) := by decide +kernel
theorem dX9_kind_13 : decode cX9_kind 13 = .ok (.aload_n 0, 1) := by decide +kernel
theorem dX9_kind_14 : decode cX9_kind 14 = .ok (.getfield 19, 3) := by decide +kernel
theorem dX9_kind_17 : decode cX9_kind 17 = .ok (.iconst 4, 1) := by decide +kernel
theorem dX9_kind_18 : decode cX9_kind 18 = .ok (.iload_n 1, 1) := by decide +kernel
theorem dX9_kind_19 : decode cX9_kind 19 = .ok (.imul, 1) := by decide +kernel
theorem dX9_kind_20 : decode cX9_kind 20 = .ok (.iaload, 1) := by decide +kernel
theorem dX9_kind_21 : decode cX9_kind 21 = .ok (.goto 5, 3) := by decide +kernel
theorem dX9_kind_24 : decode cX9_kind 24 = .ok (.ldc 91, 2) := by decide +kernel
theorem dX9_kind_26 : decode cX9_kind 26 = .ok (.ireturn, 1) := by decide +kernel
theorem dX9_as_0 : decode cX9_as 0 = .ok (.aload_n 0, 1) := by decide +kernel
theorem dX9_as_1 : decode cX9_as 1 = .ok (.iconst 0, 1) := by decide +kernel
theorem dX9_as_2 : decode cX9_as 2 = .ok (.putfield 71, 3) := by decide +kernel
theorem dX9_as_5 : decode cX9_as 5 = .ok (.aload_n 0, 1) := by decide +kernel
theorem dX9_as_6 : decode cX9_as 6 = .ok (.iload_n 1, 1) := by decide +kernel
theorem dX9_as_7 : decode cX9_as 7 = .ok (.invokevirtual 325, 3) := by decide +kernel
theorem dX9_as_10 : decode cX9_as 10 = .ok (.ifCond .eq 15, 3) := by decide +kernel
theorem dX9_as_13 : decode cX9_as 13 = .ok (.iload_n 2, 1) := by decide +kernel
theorem dX9_as_14 : decode cX9_as 14 = .ok (.i2l, 1) := by decide +kernel
theorem dX9_as_15 : decode cX9_as 15 = .ok (.lconst 0, 1) := by decide +kernel
theorem dX9_as_16 : decode cX9_as 16 = .ok (.ldc2_w 79, 3) := by decide +kernel
theorem dX9_as_19 : decode cX9_as 19 = .ok (.invokestatic 81, 3) := by decide +kernel
theorem dX9_as_22 : decode cX9_as 22 = .ok (.ifCond .ne 6, 3) := by decide +kernel
theorem dX9_as_25 : decode cX9_as 25 = .ok (.ldc 91, 2) := by decide +kernel
theorem dX9_as_27 : decode cX9_as 27 = .ok (.ireturn, 1) := by decide +kernel
theorem dX9_as_28 : decode cX9_as 28 = .ok (.aload_n 0, 1) := by decide +kernel
theorem dX9_as_29 : decode cX9_as 29 = .ok (.iconst 0, 1) := by decide +kernel
theorem dX9_as_30 : decode cX9_as 30 = .ok (.putfield 75, 3) := by decide +kernel
theorem dX9_as_33 : decode cX9_as 33 = .ok (.aload_n 0, 1) := by decide +kernel
theorem dX9_as_34 : decode cX9_as 34 = .ok (.getfield 19, 3) := by decide +kernel
theorem dX9_as_37 : decode cX9_as 37 = .ok (.iconst 4, 1) := by decide +kernel
theorem dX9_as_38 : decode cX9_as 38 = .ok (.iload_n 1, 1) := by decide +kernel
theorem dX9_as_39 : decode cX9_as 39 = .ok (.imul, 1) := by decide +kernel
theorem dX9_as_40 : decode cX9_as 40 = .ok (.iaload, 1) := by decide +kernel
theorem dX9_as_41 : decode cX9_as 41 = .ok (.iload_n 2, 1) := by decide +kernel
theorem dX9_as_42 : decode cX9_as 42 = .ok (.invokestatic 328, 3) := by decide +kernel
theorem dX9_as_45 : decode cX9_as 45 = .ok (.ifCond .eq 16, 3) := by decide +kernel
theorem dX9_as_48 : decode cX9_as 48 = .ok (.aload_n 0, 1) := by decide +kernel
theorem dX9_as_49 : decode cX9_as 49 = .ok (.getfield 19, 3) := by decide +kernel
theorem dX9_as_52 : decode cX9_as 52 = .ok (.iconst 4, 1) := by decide +kernel
theorem dX9_as_53 : decode cX9_as 53 = .ok (.iload_n 1, 1) := by decide +kernel
theorem dX9_as_54 : decode cX9_as 54 = .ok (.imul, 1) := by decide +kernel
theorem dX9_as_55 : decode cX9_as 55 = .ok (.iconst 1, 1) := by decide +kernel
theorem dX9_as_56 : decode cX9_as 56 = .ok (.iadd, 1) := by decide +kernel
theorem dX9_as_57 : decode cX9_as 57 = .ok (.iaload, 1) := by decide +kernel
theorem dX9_as_58 : decode cX9_as 58 = .ok (.goto 8, 3) := by decide +kernel
theorem dX9_as_61 : decode cX9_as 61 = .ok (.aload_n 0, 1) := by decide +kernel
theorem dX9_as_62 : decode cX9_as 62 = .ok (.iconst 3, 1) := by decide +kernel
theorem dX9_as_63 : decode cX9_as 63 = .ok (.invokevirtual 92, 3) := by decide +kernel
theorem dX9_as_66 : decode cX9_as 66 = .ok (.ireturn, 1) := by decide +kernel
theorem dX9_began_0 : decode cX9_began 0 = .ok (.aload_n 0, 1) := by decide +kernel
theorem dX9_began_1 : decode cX9_began 1 = .ok (.getfield 332, 3) := by decide +kernel
theorem dX9_began_4 : decode cX9_began 4 = .ok (.bipush 16, 2) := by decide +kernel
theorem dX9_began_6 : decode cX9_began 6 = .ok (.if_icmp .ge 23, 3) := by decide +kernel
theorem dX9_began_9 : decode cX9_began 9 = .ok (.aload_n 0, 1) := by decide +kernel
theorem dX9_began_10 : decode cX9_began 10 = .ok (.getfield 68, 3) := by decide +kernel
theorem dX9_began_13 : decode cX9_began 13 = .ok (.aload_n 0, 1) := by decide +kernel
theorem dX9_began_14 : decode cX9_began 14 = .ok (.getfield 332, 3) := by decide +kernel
theorem dX9_began_17 : decode cX9_began 17 = .ok (.iload_n 1, 1) := by decide +kernel
theorem dX9_began_18 : decode cX9_began 18 = .ok (.iastore, 1) := by decide +kernel
theorem dX9_began_19 : decode cX9_began 19 = .ok (.aload_n 0, 1) := by decide +kernel
theorem dX9_began_20 : decode cX9_began 20 = .ok (.dup, 1) := by decide +kernel
theorem dX9_began_21 : decode cX9_began 21 = .ok (.getfield 332, 3) := by decide +kernel
theorem dX9_began_24 : decode cX9_began 24 = .ok (.iconst 1, 1) := by decide +kernel
theorem dX9_began_25 : decode cX9_began 25 = .ok (.iadd, 1) := by decide +kernel
theorem dX9_began_26 : decode cX9_began 26 = .ok (.putfield 332, 3) := by decide +kernel
theorem dX9_began_29 : decode cX9_began 29 = .ok (.return_, 1) := by decide +kernel
theorem dX9_flameSize_0 : decode cX9_flameSize 0 = .ok (.aload_n 0, 1) := by decide +kernel
theorem dX9_flameSize_1 : decode cX9_flameSize 1 = .ok (.bipush 14, 2) := by decide +kernel
theorem dX9_flameSize_3 : decode cX9_flameSize 3 = .ok (.invokevirtual 335, 3) := by decide +kernel
theorem dX9_flameSize_6 : decode cX9_flameSize 6 = .ok (.aload_n 0, 1) := by decide +kernel
theorem dX9_flameSize_7 : decode cX9_flameSize 7 = .ok (.bipush 10, 2) := by decide +kernel
theorem dX9_flameSize_9 : decode cX9_flameSize 9 = .ok (.invokevirtual 335, 3) := by decide +kernel
theorem dX9_flameSize_12 : decode cX9_flameSize 12 = .ok (.aload_n 0, 1) := by decide +kernel
theorem dX9_flameSize_13 : decode cX9_flameSize 13 = .ok (.getfield 19, 3) := by decide +kernel
theorem dX9_flameSize_16 : decode cX9_flameSize 16 = .ok (.iconst 4, 1) := by decide +kernel
theorem dX9_flameSize_17 : decode cX9_flameSize 17 = .ok (.iload_n 1, 1) := by decide +kernel
theorem dX9_flameSize_18 : decode cX9_flameSize 18 = .ok (.imul, 1) := by decide +kernel
theorem dX9_flameSize_19 : decode cX9_flameSize 19 = .ok (.iconst 2, 1) := by decide +kernel
theorem dX9_flameSize_20 : decode cX9_flameSize 20 = .ok (.iadd, 1) := by decide +kernel
theorem dX9_flameSize_21 : decode cX9_flameSize 21 = .ok (.iaload, 1) := by decide +kernel
theorem dX9_flameSize_22 : decode cX9_flameSize 22 = .ok (.ineg, 1) := by decide +kernel
theorem dX9_flameSize_23 : decode cX9_flameSize 23 = .ok (.ireturn, 1) := by decide +kernel
theorem dX9_markOf_0 : decode cX9_markOf 0 = .ok (.iload_n 2, 1) := by decide +kernel
theorem dX9_markOf_1 : decode cX9_markOf 1 = .ok (.iconst 1, 1) := by decide +kernel
theorem dX9_markOf_2 : decode cX9_markOf 2 = .ok (.if_icmp .eq 15, 3) := by decide +kernel
theorem dX9_markOf_5 : decode cX9_markOf 5 = .ok (.iload_n 2, 1) := by decide +kernel
theorem dX9_markOf_6 : decode cX9_markOf 6 = .ok (.bipush 6, 2) := by decide +kernel
theorem dX9_markOf_8 : decode cX9_markOf 8 = .ok (.if_icmp .eq 9, 3) := by decide +kernel
theorem dX9_markOf_11 : decode cX9_markOf 11 = .ok (.iload_n 2, 1) := by decide +kernel
theorem dX9_markOf_12 : decode cX9_markOf 12 = .ok (.bipush 7, 2) := by decide +kernel
theorem dX9_markOf_14 : decode cX9_markOf 14 = .ok (.if_icmp .ne 30, 3) := by decide +kernel
theorem dX9_markOf_17 : decode cX9_markOf 17 = .ok (.aload_n 0, 1) := by decide +kernel
theorem dX9_markOf_18 : decode cX9_markOf 18 = .ok (.iload_n 2, 1) := by decide +kernel
theorem dX9_markOf_19 : decode cX9_markOf 19 = .ok (.iconst 1, 1) := by decide +kernel
theorem dX9_markOf_20 : decode cX9_markOf 20 = .ok (.if_icmp .ne 8, 3) := by decide +kernel
theorem dX9_markOf_23 : decode cX9_markOf 23 = .ok (.bipush 21, 2) := by decide +kernel
theorem dX9_markOf_25 : decode cX9_markOf 25 = .ok (.goto 16, 3) := by decide +kernel
theorem dX9_markOf_28 : decode cX9_markOf 28 = .ok (.iload_n 2, 1) := by decide +kernel
theorem dX9_markOf_29 : decode cX9_markOf 29 = .ok (.bipush 6, 2) := by decide +kernel
theorem dX9_markOf_31 : decode cX9_markOf 31 = .ok (.if_icmp .ne 8, 3) := by decide +kernel
theorem dX9_markOf_34 : decode cX9_markOf 34 = .ok (.bipush 22, 2) := by decide +kernel
theorem dX9_markOf_36 : decode cX9_markOf 36 = .ok (.goto 5, 3) := by decide +kernel
theorem dX9_markOf_39 : decode cX9_markOf 39 = .ok (.bipush 23, 2) := by decide +kernel
theorem dX9_markOf_41 : decode cX9_markOf 41 = .ok (.invokevirtual 335, 3) := by decide +kernel
theorem dX9_markOf_44 : decode cX9_markOf 44 = .ok (.aload_n 0, 1) := by decide +kernel
theorem dX9_markOf_45 : decode cX9_markOf 45 = .ok (.bipush 20, 2) := by decide +kernel
theorem dX9_markOf_47 : decode cX9_markOf 47 = .ok (.invokevirtual 335, 3) := by decide +kernel
theorem dX9_markOf_50 : decode cX9_markOf 50 = .ok (.iload_n 2, 1) := by decide +kernel
theorem dX9_markOf_51 : decode cX9_markOf 51 = .ok (.iconst 1, 1) := by decide +kernel
theorem dX9_markOf_52 : decode cX9_markOf 52 = .ok (.if_icmp .ne 10, 3) := by decide +kernel
theorem dX9_markOf_55 : decode cX9_markOf 55 = .ok (.iload_n 1, 1) := by decide +kernel
theorem dX9_markOf_56 : decode cX9_markOf 56 = .ok (.bipush 100, 2) := by decide +kernel
theorem dX9_markOf_58 : decode cX9_markOf 58 = .ok (.iadd, 1) := by decide +kernel
theorem dX9_markOf_59 : decode cX9_markOf 59 = .ok (.goto 31, 3) := by decide +kernel
theorem dX9_markOf_62 : decode cX9_markOf 62 = .ok (.iload_n 2, 1) := by decide +kernel
theorem dX9_markOf_63 : decode cX9_markOf 63 = .ok (.bipush 6, 2) := by decide +kernel
theorem dX9_markOf_65 : decode cX9_markOf 65 = .ok (.if_icmp .ne 8, 3) := by decide +kernel
theorem dX9_markOf_68 : decode cX9_markOf 68 = .ok (.iload_n 1, 1) := by decide +kernel
theorem dX9_markOf_69 : decode cX9_markOf 69 = .ok (.ineg, 1) := by decide +kernel
theorem dX9_markOf_70 : decode cX9_markOf 70 = .ok (.goto 20, 3) := by decide +kernel
theorem dX9_markOf_73 : decode cX9_markOf 73 = .ok (.iload_n 2, 1) := by decide +kernel
theorem dX9_markOf_74 : decode cX9_markOf 74 = .ok (.bipush 7, 2) := by decide +kernel
theorem dX9_markOf_76 : decode cX9_markOf 76 = .ok (.if_icmp .ne 13, 3) := by decide +kernel
theorem dX9_markOf_79 : decode cX9_markOf 79 = .ok (.iload_n 1, 1) := by decide +kernel
theorem dX9_markOf_80 : decode cX9_markOf 80 = .ok (.aload_n 0, 1) := by decide +kernel
theorem dX9_markOf_81 : decode cX9_markOf 81 = .ok (.iload_n 1, 1) := by decide +kernel
theorem dX9_markOf_82 : decode cX9_markOf 82 = .ok (.invokevirtual 338, 3) := by decide +kernel
theorem dX9_markOf_85 : decode cX9_markOf 85 = .ok (.iadd, 1) := by decide +kernel
theorem dX9_markOf_86 : decode cX9_markOf 86 = .ok (.goto 4, 3) := by decide +kernel
theorem dX9_markOf_89 : decode cX9_markOf 89 = .ok (.iload_n 1, 1) := by decide +kernel
theorem dX9_markOf_90 : decode cX9_markOf 90 = .ok (.ireturn, 1) := by decide +kernel
theorem dX9_sizeOf_0 : decode cX9_sizeOf 0 = .ok (.iload_n 2, 1) := by decide +kernel
theorem dX9_sizeOf_1 : decode cX9_sizeOf 1 = .ok (.bipush 7, 2) := by decide +kernel
theorem dX9_sizeOf_3 : decode cX9_sizeOf 3 = .ok (.if_icmp .ne 9, 3) := by decide +kernel
theorem dX9_sizeOf_6 : decode cX9_sizeOf 6 = .ok (.aload_n 0, 1) := by decide +kernel
theorem dX9_sizeOf_7 : decode cX9_sizeOf 7 = .ok (.iload_n 1, 1) := by decide +kernel
theorem dX9_sizeOf_8 : decode cX9_sizeOf 8 = .ok (.invokevirtual 338, 3) := by decide +kernel
theorem dX9_sizeOf_11 : decode cX9_sizeOf 11 = .ok (.ireturn, 1) := by decide +kernel
theorem dX9_sizeOf_12 : decode cX9_sizeOf 12 = .ok (.iload_n 2, 1) := by decide +kernel
theorem dX9_sizeOf_13 : decode cX9_sizeOf 13 = .ok (.iconst 4, 1) := by decide +kernel
theorem dX9_sizeOf_14 : decode cX9_sizeOf 14 = .ok (.if_icmp .ne 9, 3) := by decide +kernel
theorem dX9_sizeOf_17 : decode cX9_sizeOf 17 = .ok (.aload_n 0, 1) := by decide +kernel
theorem dX9_sizeOf_18 : decode cX9_sizeOf 18 = .ok (.bipush 13, 2) := by decide +kernel
theorem dX9_sizeOf_20 : decode cX9_sizeOf 20 = .ok (.invokevirtual 335, 3) := by decide +kernel
theorem dX9_sizeOf_23 : decode cX9_sizeOf 23 = .ok (.iload_n 2, 1) := by decide +kernel
theorem dX9_sizeOf_24 : decode cX9_sizeOf 24 = .ok (.iconst 3, 1) := by decide +kernel
theorem dX9_sizeOf_25 : decode cX9_sizeOf 25 = .ok (.invokestatic 328, 3) := by decide +kernel
theorem dX9_sizeOf_28 : decode cX9_sizeOf 28 = .ok (.ifCond .eq 9, 3) := by decide +kernel
theorem dX9_sizeOf_31 : decode cX9_sizeOf 31 = .ok (.aload_n 0, 1) := by decide +kernel
theorem dX9_sizeOf_32 : decode cX9_sizeOf 32 = .ok (.bipush 12, 2) := by decide +kernel
theorem dX9_sizeOf_34 : decode cX9_sizeOf 34 = .ok (.invokevirtual 335, 3) := by decide +kernel
theorem dX9_sizeOf_37 : decode cX9_sizeOf 37 = .ok (.iload_n 2, 1) := by decide +kernel
theorem dX9_sizeOf_38 : decode cX9_sizeOf 38 = .ok (.iconst 2, 1) := by decide +kernel
theorem dX9_sizeOf_39 : decode cX9_sizeOf 39 = .ok (.invokestatic 328, 3) := by decide +kernel
theorem dX9_sizeOf_42 : decode cX9_sizeOf 42 = .ok (.istore_n 3, 1) := by decide +kernel
theorem dX9_sizeOf_43 : decode cX9_sizeOf 43 = .ok (.iload_n 3, 1) := by decide +kernel
theorem dX9_sizeOf_44 : decode cX9_sizeOf 44 = .ok (.ifCond .eq 9, 3) := by decide +kernel
theorem dX9_sizeOf_47 : decode cX9_sizeOf 47 = .ok (.aload_n 0, 1) := by decide +kernel
theorem dX9_sizeOf_48 : decode cX9_sizeOf 48 = .ok (.bipush 11, 2) := by decide +kernel
theorem dX9_sizeOf_50 : decode cX9_sizeOf 50 = .ok (.invokevirtual 335, 3) := by decide +kernel
theorem dX9_sizeOf_53 : decode cX9_sizeOf 53 = .ok (.aload_n 0, 1) := by decide +kernel
theorem dX9_sizeOf_54 : decode cX9_sizeOf 54 = .ok (.bipush 10, 2) := by decide +kernel
theorem dX9_sizeOf_56 : decode cX9_sizeOf 56 = .ok (.invokevirtual 335, 3) := by decide +kernel
theorem dX9_sizeOf_59 : decode cX9_sizeOf 59 = .ok (.aload_n 0, 1) := by decide +kernel
theorem dX9_sizeOf_60 : decode cX9_sizeOf 60 = .ok (.getfield 19, 3) := by decide +kernel
theorem dX9_sizeOf_63 : decode cX9_sizeOf 63 = .ok (.iconst 4, 1) := by decide +kernel
theorem dX9_sizeOf_64 : decode cX9_sizeOf 64 = .ok (.iload_n 1, 1) := by decide +kernel
theorem dX9_sizeOf_65 : decode cX9_sizeOf 65 = .ok (.imul, 1) := by decide +kernel
theorem dX9_sizeOf_66 : decode cX9_sizeOf 66 = .ok (.iconst 2, 1) := by decide +kernel
theorem dX9_sizeOf_67 : decode cX9_sizeOf 67 = .ok (.iadd, 1) := by decide +kernel
theorem dX9_sizeOf_68 : decode cX9_sizeOf 68 = .ok (.iaload, 1) := by decide +kernel
theorem dX9_sizeOf_69 : decode cX9_sizeOf 69 = .ok (.iload_n 3, 1) := by decide +kernel
theorem dX9_sizeOf_70 : decode cX9_sizeOf 70 = .ok (.ifCond .eq 12, 3) := by decide +kernel
theorem dX9_sizeOf_73 : decode cX9_sizeOf 73 = .ok (.aload_n 0, 1) := by decide +kernel
theorem dX9_sizeOf_74 : decode cX9_sizeOf 74 = .ok (.iload_n 1, 1) := by decide +kernel
theorem dX9_sizeOf_75 : decode cX9_sizeOf 75 = .ok (.iload_n 2, 1) := by decide +kernel
theorem dX9_sizeOf_76 : decode cX9_sizeOf 76 = .ok (.invokevirtual 341, 3) := by decide +kernel
theorem dX9_sizeOf_79 : decode cX9_sizeOf 79 = .ok (.goto 4, 3) := by decide +kernel
theorem dX9_sizeOf_82 : decode cX9_sizeOf 82 = .ok (.iconst 0, 1) := by decide +kernel
theorem dX9_sizeOf_83 : decode cX9_sizeOf 83 = .ok (.iadd, 1) := by decide +kernel
theorem dX9_sizeOf_84 : decode cX9_sizeOf 84 = .ok (.istore 4, 2) := by decide +kernel
theorem dX9_sizeOf_86 : decode cX9_sizeOf 86 = .ok (.iload 4, 2) := by decide +kernel
theorem dX9_sizeOf_88 : decode cX9_sizeOf 88 = .ok (.iload_n 2, 1) := by decide +kernel
theorem dX9_sizeOf_89 : decode cX9_sizeOf 89 = .ok (.iconst 3, 1) := by decide +kernel
theorem dX9_sizeOf_90 : decode cX9_sizeOf 90 = .ok (.invokestatic 328, 3) := by decide +kernel
theorem dX9_sizeOf_93 : decode cX9_sizeOf 93 = .ok (.ifCond .eq 7, 3) := by decide +kernel
theorem dX9_sizeOf_96 : decode cX9_sizeOf 96 = .ok (.iconst 1, 1) := by decide +kernel
theorem dX9_sizeOf_97 : decode cX9_sizeOf 97 = .ok (.goto 4, 3) := by decide +kernel
theorem dX9_sizeOf_100 : decode cX9_sizeOf 100 = .ok (.iconst 0, 1) := by decide +kernel
theorem dX9_sizeOf_101 : decode cX9_sizeOf 101 = .ok (.isub, 1) := by decide +kernel
theorem dX9_sizeOf_102 : decode cX9_sizeOf 102 = .ok (.istore 4, 2) := by decide +kernel
theorem dX9_sizeOf_104 : decode cX9_sizeOf 104 = .ok (.iload_n 2, 1) := by decide +kernel
theorem dX9_sizeOf_105 : decode cX9_sizeOf 105 = .ok (.iconst 4, 1) := by decide +kernel
theorem dX9_sizeOf_106 : decode cX9_sizeOf 106 = .ok (.if_icmp .ne 10, 3) := by decide +kernel
theorem dX9_sizeOf_109 : decode cX9_sizeOf 109 = .ok (.iconst 2, 1) := by decide +kernel
theorem dX9_sizeOf_110 : decode cX9_sizeOf 110 = .ok (.iload 4, 2) := by decide +kernel
theorem dX9_sizeOf_112 : decode cX9_sizeOf 112 = .ok (.imul, 1) := by decide +kernel
theorem dX9_sizeOf_113 : decode cX9_sizeOf 113 = .ok (.goto 5, 3) := by decide +kernel
theorem dX9_sizeOf_116 : decode cX9_sizeOf 116 = .ok (.iload 4, 2) := by decide +kernel
theorem dX9_sizeOf_118 : decode cX9_sizeOf 118 = .ok (.ireturn, 1) := by decide +kernel
theorem dX9_ask_0 : decode cX9_ask 0 = .ok (.aload_n 0, 1) := by decide +kernel
theorem dX9_ask_1 : decode cX9_ask 1 = .ok (.iconst 0, 1) := by decide +kernel
theorem dX9_ask_2 : decode cX9_ask 2 = .ok (.putfield 71, 3) := by decide +kernel
theorem dX9_ask_5 : decode cX9_ask 5 = .ok (.aload_n 0, 1) := by decide +kernel
theorem dX9_ask_6 : decode cX9_ask 6 = .ok (.iload_n 1, 1) := by decide +kernel
theorem dX9_ask_7 : decode cX9_ask 7 = .ok (.invokevirtual 325, 3) := by decide +kernel
theorem dX9_ask_10 : decode cX9_ask 10 = .ok (.ifCond .eq 13, 3) := by decide +kernel
theorem dX9_ask_13 : decode cX9_ask 13 = .ok (.iload_n 2, 1) := by decide +kernel
theorem dX9_ask_14 : decode cX9_ask 14 = .ok (.i2l, 1) := by decide +kernel
theorem dX9_ask_15 : decode cX9_ask 15 = .ok (.lconst 0, 1) := by decide +kernel
theorem dX9_ask_16 : decode cX9_ask 16 = .ok (.lconst 1, 1) := by decide +kernel
theorem dX9_ask_17 : decode cX9_ask 17 = .ok (.invokestatic 81, 3) := by decide +kernel
theorem dX9_ask_20 : decode cX9_ask 20 = .ok (.ifCond .ne 6, 3) := by decide +kernel
theorem dX9_ask_23 : decode cX9_ask 23 = .ok (.ldc 91, 2) := by decide +kernel
theorem dX9_ask_25 : decode cX9_ask 25 = .ok (.ireturn, 1) := by decide +kernel
theorem dX9_ask_26 : decode cX9_ask 26 = .ok (.aload_n 0, 1) := by decide +kernel
theorem dX9_ask_27 : decode cX9_ask 27 = .ok (.iconst 0, 1) := by decide +kernel
theorem dX9_ask_28 : decode cX9_ask 28 = .ok (.putfield 332, 3) := by decide +kernel
theorem dX9_ask_31 : decode cX9_ask 31 = .ok (.iload_n 2, 1) := by decide +kernel
theorem dX9_ask_32 : decode cX9_ask 32 = .ok (.ifCond .ne 19, 3) := by decide +kernel
theorem dX9_ask_35 : decode cX9_ask 35 = .ok (.aload_n 0, 1) := by decide +kernel
theorem dX9_ask_36 : decode cX9_ask 36 = .ok (.iload_n 1, 1) := by decide +kernel
theorem dX9_ask_37 : decode cX9_ask 37 = .ok (.aload_n 0, 1) := by decide +kernel
theorem dX9_ask_38 : decode cX9_ask 38 = .ok (.getfield 19, 3) := by decide +kernel
theorem dX9_ask_41 : decode cX9_ask 41 = .ok (.iconst 4, 1) := by decide +kernel
theorem dX9_ask_42 : decode cX9_ask 42 = .ok (.iload_n 1, 1) := by decide +kernel
theorem dX9_ask_43 : decode cX9_ask 43 = .ok (.imul, 1) := by decide +kernel
theorem dX9_ask_44 : decode cX9_ask 44 = .ok (.iaload, 1) := by decide +kernel
theorem dX9_ask_45 : decode cX9_ask 45 = .ok (.invokevirtual 344, 3) := by decide +kernel
theorem dX9_ask_48 : decode cX9_ask 48 = .ok (.goto 16, 3) := by decide +kernel
theorem dX9_ask_51 : decode cX9_ask 51 = .ok (.aload_n 0, 1) := by decide +kernel
theorem dX9_ask_52 : decode cX9_ask 52 = .ok (.iload_n 1, 1) := by decide +kernel
theorem dX9_ask_53 : decode cX9_ask 53 = .ok (.aload_n 0, 1) := by decide +kernel
theorem dX9_ask_54 : decode cX9_ask 54 = .ok (.getfield 19, 3) := by decide +kernel
theorem dX9_ask_57 : decode cX9_ask 57 = .ok (.iconst 4, 1) := by decide +kernel
theorem dX9_ask_58 : decode cX9_ask 58 = .ok (.iload_n 1, 1) := by decide +kernel
theorem dX9_ask_59 : decode cX9_ask 59 = .ok (.imul, 1) := by decide +kernel
theorem dX9_ask_60 : decode cX9_ask 60 = .ok (.iaload, 1) := by decide +kernel
theorem dX9_ask_61 : decode cX9_ask 61 = .ok (.invokevirtual 341, 3) := by decide +kernel
theorem dX9_ask_64 : decode cX9_ask 64 = .ok (.ireturn, 1) := by decide +kernel
theorem dX9_trace_0 : decode cX9_trace 0 = .ok (.aload_n 0, 1) := by decide +kernel
theorem dX9_trace_1 : decode cX9_trace 1 = .ok (.iconst 0, 1) := by decide +kernel
theorem dX9_trace_2 : decode cX9_trace 2 = .ok (.putfield 71, 3) := by decide +kernel
theorem dX9_trace_5 : decode cX9_trace 5 = .ok (.iload_n 1, 1) := by decide +kernel
theorem dX9_trace_6 : decode cX9_trace 6 = .ok (.i2l, 1) := by decide +kernel
theorem dX9_trace_7 : decode cX9_trace 7 = .ok (.lconst 0, 1) := by decide +kernel
theorem dX9_trace_8 : decode cX9_trace 8 = .ok (.aload_n 0, 1) := by decide +kernel
theorem dX9_trace_9 : decode cX9_trace 9 = .ok (.getfield 332, 3) := by decide +kernel
theorem dX9_trace_12 : decode cX9_trace 12 = .ok (.iconst 1, 1) := by decide +kernel
theorem dX9_trace_13 : decode cX9_trace 13 = .ok (.isub, 1) := by decide +kernel
theorem dX9_trace_14 : decode cX9_trace 14 = .ok (.i2l, 1) := by decide +kernel
theorem dX9_trace_15 : decode cX9_trace 15 = .ok (.invokestatic 81, 3) := by decide +kernel
theorem dX9_trace_18 : decode cX9_trace 18 = .ok (.ifCond .eq 12, 3) := by decide +kernel
theorem dX9_trace_21 : decode cX9_trace 21 = .ok (.aload_n 0, 1) := by decide +kernel
theorem dX9_trace_22 : decode cX9_trace 22 = .ok (.getfield 68, 3) := by decide +kernel
theorem dX9_trace_25 : decode cX9_trace 25 = .ok (.iload_n 1, 1) := by decide +kernel
theorem dX9_trace_26 : decode cX9_trace 26 = .ok (.iaload, 1) := by decide +kernel
theorem dX9_trace_27 : decode cX9_trace 27 = .ok (.goto 5, 3) := by decide +kernel
theorem dX9_trace_30 : decode cX9_trace 30 = .ok (.ldc 107, 2) := by decide +kernel
theorem dX9_trace_32 : decode cX9_trace 32 = .ok (.ireturn, 1) := by decide +kernel
theorem dX9_count_0 : decode cX9_count 0 = .ok (.aload_n 0, 1) := by decide +kernel
theorem dX9_count_1 : decode cX9_count 1 = .ok (.iconst 0, 1) := by decide +kernel
theorem dX9_count_2 : decode cX9_count 2 = .ok (.putfield 71, 3) := by decide +kernel
theorem dX9_count_5 : decode cX9_count 5 = .ok (.iconst 0, 1) := by decide +kernel
theorem dX9_count_6 : decode cX9_count 6 = .ok (.istore_n 2, 1) := by decide +kernel
theorem dX9_count_7 : decode cX9_count 7 = .ok (.iload_n 1, 1) := by decide +kernel
theorem dX9_count_8 : decode cX9_count 8 = .ok (.tableswitch 98 0 5 #[40, 73, 78, 83, 88, 93], 40) := by decide +kernel
theorem dX9_count_48 : decode cX9_count 48 = .ok (.iconst 0, 1) := by decide +kernel
theorem dX9_count_49 : decode cX9_count 49 = .ok (.istore_n 3, 1) := by decide +kernel
theorem dX9_count_50 : decode cX9_count 50 = .ok (.iload_n 3, 1) := by decide +kernel
theorem dX9_count_51 : decode cX9_count 51 = .ok (.bipush 8, 2) := by decide +kernel
theorem dX9_count_53 : decode cX9_count 53 = .ok (.if_icmp .ge 26, 3) := by decide +kernel
theorem dX9_count_56 : decode cX9_count 56 = .ok (.iload_n 2, 1) := by decide +kernel
theorem dX9_count_57 : decode cX9_count 57 = .ok (.aload_n 0, 1) := by decide +kernel
theorem dX9_count_58 : decode cX9_count 58 = .ok (.getfield 7, 3) := by decide +kernel
theorem dX9_count_61 : decode cX9_count 61 = .ok (.iload_n 3, 1) := by decide +kernel
theorem dX9_count_62 : decode cX9_count 62 = .ok (.iaload, 1) := by decide +kernel
theorem dX9_count_63 : decode cX9_count 63 = .ok (.ifCond .lt 7, 3) := by decide +kernel
theorem dX9_count_66 : decode cX9_count 66 = .ok (.iconst 1, 1) := by decide +kernel
theorem dX9_count_67 : decode cX9_count 67 = .ok (.goto 4, 3) := by decide +kernel
theorem dX9_count_70 : decode cX9_count 70 = .ok (.iconst 0, 1) := by decide +kernel
theorem dX9_count_71 : decode cX9_count 71 = .ok (.iadd, 1) := by decide +kernel
theorem dX9_count_72 : decode cX9_count 72 = .ok (.istore_n 2, 1) := by decide +kernel
theorem dX9_count_73 : decode cX9_count 73 = .ok (.iinc 3 1, 3) := by decide +kernel
theorem dX9_count_76 : decode cX9_count 76 = .ok (.goto (-26), 3) := by decide +kernel
theorem dX9_count_79 : decode cX9_count 79 = .ok (.iload_n 2, 1) := by decide +kernel
theorem dX9_count_80 : decode cX9_count 80 = .ok (.ireturn, 1) := by decide +kernel
theorem dX9_count_81 : decode cX9_count 81 = .ok (.aload_n 0, 1) := by decide +kernel
theorem dX9_count_82 : decode cX9_count 82 = .ok (.getfield 212, 3) := by decide +kernel
theorem dX9_count_85 : decode cX9_count 85 = .ok (.ireturn, 1) := by decide +kernel
theorem dX9_count_86 : decode cX9_count 86 = .ok (.aload_n 0, 1) := by decide +kernel
theorem dX9_count_87 : decode cX9_count 87 = .ok (.getfield 215, 3) := by decide +kernel
theorem dX9_count_90 : decode cX9_count 90 = .ok (.ireturn, 1) := by decide +kernel
theorem dX9_count_91 : decode cX9_count 91 = .ok (.aload_n 0, 1) := by decide +kernel
theorem dX9_count_92 : decode cX9_count 92 = .ok (.getfield 218, 3) := by decide +kernel
theorem dX9_count_95 : decode cX9_count 95 = .ok (.ireturn, 1) := by decide +kernel
theorem dX9_count_96 : decode cX9_count 96 = .ok (.aload_n 0, 1) := by decide +kernel
theorem dX9_count_97 : decode cX9_count 97 = .ok (.getfield 221, 3) := by decide +kernel
theorem dX9_count_100 : decode cX9_count 100 = .ok (.ireturn, 1) := by decide +kernel
theorem dX9_count_101 : decode cX9_count 101 = .ok (.aload_n 0, 1) := by decide +kernel
theorem dX9_count_102 : decode cX9_count 102 = .ok (.getfield 98, 3) := by decide +kernel
theorem dX9_count_105 : decode cX9_count 105 = .ok (.ireturn, 1) := by decide +kernel
theorem dX9_count_106 : decode cX9_count 106 = .ok (.ldc 91, 2) := by decide +kernel
theorem dX9_count_108 : decode cX9_count 108 = .ok (.ireturn, 1) := by decide +kernel
theorem dX9_status_0 : decode cX9_status 0 = .ok (.aload_n 0, 1) := by decide +kernel
theorem dX9_status_1 : decode cX9_status 1 = .ok (.iconst 0, 1) := by decide +kernel
theorem dX9_status_2 : decode cX9_status 2 = .ok (.putfield 71, 3) := by decide +kernel
theorem dX9_status_5 : decode cX9_status 5 = .ok (.aload_n 0, 1) := by decide +kernel
theorem dX9_status_6 : decode cX9_status 6 = .ok (.getfield 75, 3) := by decide +kernel
theorem dX9_status_9 : decode cX9_status 9 = .ok (.ireturn, 1) := by decide +kernel
theorem dJ6_bitCount_0f7a4_0 : decode cJ6_bitCount_0f7a4 0 = .ok (.iload_n 0, 1) := by decide +kernel
theorem dJ6_bitCount_0f7a4_1 : decode cJ6_bitCount_0f7a4 1 = .ok (.iload_n 0, 1) := by decide +kernel
theorem dJ6_bitCount_0f7a4_2 : decode cJ6_bitCount_0f7a4 2 = .ok (.iconst 1, 1) := by decide +kernel
theorem dJ6_bitCount_0f7a4_3 : decode cJ6_bitCount_0f7a4 3 = .ok (.iushr, 1) := by decide +kernel
theorem dJ6_bitCount_0f7a4_4 : decode cJ6_bitCount_0f7a4 4 = .ok (.ldc_w 265, 3) := by decide +kernel
theorem dJ6_bitCount_0f7a4_7 : decode cJ6_bitCount_0f7a4 7 = .ok (.iand, 1) := by decide +kernel
theorem dJ6_bitCount_0f7a4_8 : decode cJ6_bitCount_0f7a4 8 = .ok (.isub, 1) := by decide +kernel
theorem dJ6_bitCount_0f7a4_9 : decode cJ6_bitCount_0f7a4 9 = .ok (.istore_n 0, 1) := by decide +kernel
theorem dJ6_bitCount_0f7a4_10 : decode cJ6_bitCount_0f7a4 10 = .ok (.iload_n 0, 1) := by decide +kernel
theorem dJ6_bitCount_0f7a4_11 : decode cJ6_bitCount_0f7a4 11 = .ok (.ldc_w 266, 3) := by decide +kernel
theorem dJ6_bitCount_0f7a4_14 : decode cJ6_bitCount_0f7a4 14 = .ok (.iand, 1) := by decide +kernel
theorem dJ6_bitCount_0f7a4_15 : decode cJ6_bitCount_0f7a4 15 = .ok (.iload_n 0, 1) := by decide +kernel
theorem dJ6_bitCount_0f7a4_16 : decode cJ6_bitCount_0f7a4 16 = .ok (.iconst 2, 1) := by decide +kernel
theorem dJ6_bitCount_0f7a4_17 : decode cJ6_bitCount_0f7a4 17 = .ok (.iushr, 1) := by decide +kernel
theorem dJ6_bitCount_0f7a4_18 : decode cJ6_bitCount_0f7a4 18 = .ok (.ldc_w 266, 3) := by decide +kernel
theorem dJ6_bitCount_0f7a4_21 : decode cJ6_bitCount_0f7a4 21 = .ok (.iand, 1) := by decide +kernel
theorem dJ6_bitCount_0f7a4_22 : decode cJ6_bitCount_0f7a4 22 = .ok (.iadd, 1) := by decide +kernel
theorem dJ6_bitCount_0f7a4_23 : decode cJ6_bitCount_0f7a4 23 = .ok (.istore_n 0, 1) := by decide +kernel
theorem dJ6_bitCount_0f7a4_24 : decode cJ6_bitCount_0f7a4 24 = .ok (.iload_n 0, 1) := by decide +kernel
theorem dJ6_bitCount_0f7a4_25 : decode cJ6_bitCount_0f7a4 25 = .ok (.iload_n 0, 1) := by decide +kernel
theorem dJ6_bitCount_0f7a4_26 : decode cJ6_bitCount_0f7a4 26 = .ok (.iconst 4, 1) := by decide +kernel
theorem dJ6_bitCount_0f7a4_27 : decode cJ6_bitCount_0f7a4 27 = .ok (.iushr, 1) := by decide +kernel
theorem dJ6_bitCount_0f7a4_28 : decode cJ6_bitCount_0f7a4 28 = .ok (.iadd, 1) := by decide +kernel
theorem dJ6_bitCount_0f7a4_29 : decode cJ6_bitCount_0f7a4 29 = .ok (.ldc_w 267, 3) := by decide +kernel
theorem dJ6_bitCount_0f7a4_32 : decode cJ6_bitCount_0f7a4 32 = .ok (.iand, 1) := by decide +kernel
theorem dJ6_bitCount_0f7a4_33 : decode cJ6_bitCount_0f7a4 33 = .ok (.istore_n 0, 1) := by decide +kernel
theorem dJ6_bitCount_0f7a4_34 : decode cJ6_bitCount_0f7a4 34 = .ok (.iload_n 0, 1) := by decide +kernel
theorem dJ6_bitCount_0f7a4_35 : decode cJ6_bitCount_0f7a4 35 = .ok (.iload_n 0, 1) := by decide +kernel
theorem dJ6_bitCount_0f7a4_36 : decode cJ6_bitCount_0f7a4 36 = .ok (.bipush 8, 2) := by decide +kernel
theorem dJ6_bitCount_0f7a4_38 : decode cJ6_bitCount_0f7a4 38 = .ok (.iushr, 1) := by decide +kernel
theorem dJ6_bitCount_0f7a4_39 : decode cJ6_bitCount_0f7a4 39 = .ok (.iadd, 1) := by decide +kernel
theorem dJ6_bitCount_0f7a4_40 : decode cJ6_bitCount_0f7a4 40 = .ok (.istore_n 0, 1) := by decide +kernel
theorem dJ6_bitCount_0f7a4_41 : decode cJ6_bitCount_0f7a4 41 = .ok (.iload_n 0, 1) := by decide +kernel
theorem dJ6_bitCount_0f7a4_42 : decode cJ6_bitCount_0f7a4 42 = .ok (.iload_n 0, 1) := by decide +kernel
theorem dJ6_bitCount_0f7a4_43 : decode cJ6_bitCount_0f7a4 43 = .ok (.bipush 16, 2) := by decide +kernel
theorem dJ6_bitCount_0f7a4_45 : decode cJ6_bitCount_0f7a4 45 = .ok (.iushr, 1) := by decide +kernel
theorem dJ6_bitCount_0f7a4_46 : decode cJ6_bitCount_0f7a4 46 = .ok (.iadd, 1) := by decide +kernel
theorem dJ6_bitCount_0f7a4_47 : decode cJ6_bitCount_0f7a4 47 = .ok (.istore_n 0, 1) := by decide +kernel
theorem dJ6_bitCount_0f7a4_48 : decode cJ6_bitCount_0f7a4 48 = .ok (.iload_n 0, 1) := by decide +kernel
theorem dJ6_bitCount_0f7a4_49 : decode cJ6_bitCount_0f7a4 49 = .ok (.bipush 63, 2) := by decide +kernel
theorem dJ6_bitCount_0f7a4_51 : decode cJ6_bitCount_0f7a4 51 = .ok (.iand, 1) := by decide +kernel
theorem dJ6_bitCount_0f7a4_52 : decode cJ6_bitCount_0f7a4 52 = .ok (.ireturn, 1) := by decide +kernel
theorem dJ9_abs_0f7a4_0 : decode cJ9_abs_0f7a4 0 = .ok (.iload_n 0, 1) := by decide +kernel
theorem dJ9_abs_0f7a4_1 : decode cJ9_abs_0f7a4 1 = .ok (.ifCond .ge 8, 3) := by decide +kernel
theorem dJ9_abs_0f7a4_4 : decode cJ9_abs_0f7a4 4 = .ok (.iload_n 0, 1) := by decide +kernel
theorem dJ9_abs_0f7a4_5 : decode cJ9_abs_0f7a4 5 = .ok (.ineg, 1) := by decide +kernel
theorem dJ9_abs_0f7a4_6 : decode cJ9_abs_0f7a4 6 = .ok (.goto 4, 3) := by decide +kernel
theorem dJ9_abs_0f7a4_9 : decode cJ9_abs_0f7a4 9 = .ok (.iload_n 0, 1) := by decide +kernel
theorem dJ9_abs_0f7a4_10 : decode cJ9_abs_0f7a4 10 = .ok (.ireturn, 1) := by decide +kernel
theorem dJ9_max_7cf53_0 : decode cJ9_max_7cf53 0 = .ok (.iload_n 0, 1) := by decide +kernel
theorem dJ9_max_7cf53_1 : decode cJ9_max_7cf53 1 = .ok (.iload_n 1, 1) := by decide +kernel
theorem dJ9_max_7cf53_2 : decode cJ9_max_7cf53 2 = .ok (.if_icmp .lt 7, 3) := by decide +kernel
theorem dJ9_max_7cf53_5 : decode cJ9_max_7cf53 5 = .ok (.iload_n 0, 1) := by decide +kernel
theorem dJ9_max_7cf53_6 : decode cJ9_max_7cf53 6 = .ok (.goto 4, 3) := by decide +kernel
theorem dJ9_max_7cf53_9 : decode cJ9_max_7cf53 9 = .ok (.iload_n 1, 1) := by decide +kernel
theorem dJ9_max_7cf53_10 : decode cJ9_max_7cf53 10 = .ok (.ireturn, 1) := by decide +kernel
theorem dJ9_min_7cf53_0 : decode cJ9_min_7cf53 0 = .ok (.iload_n 0, 1) := by decide +kernel
theorem dJ9_min_7cf53_1 : decode cJ9_min_7cf53 1 = .ok (.iload_n 1, 1) := by decide +kernel
theorem dJ9_min_7cf53_2 : decode cJ9_min_7cf53 2 = .ok (.if_icmp .gt 7, 3) := by decide +kernel
theorem dJ9_min_7cf53_5 : decode cJ9_min_7cf53 5 = .ok (.iload_n 0, 1) := by decide +kernel
theorem dJ9_min_7cf53_6 : decode cJ9_min_7cf53 6 = .ok (.goto 4, 3) := by decide +kernel
theorem dJ9_min_7cf53_9 : decode cJ9_min_7cf53 9 = .ok (.iload_n 1, 1) := by decide +kernel
theorem dJ9_min_7cf53_10 : decode cJ9_min_7cf53 10 = .ok (.ireturn, 1) := by decide +kernel
theorem dJ0_length_8abf5_0 : decode cJ0_length_8abf5 0 = .ok (.aload_n 0, 1) := by decide +kernel
theorem dJ0_length_8abf5_1 : decode cJ0_length_8abf5 1 = .ok (.getfield 9, 3) := by decide +kernel
theorem dJ0_length_8abf5_4 : decode cJ0_length_8abf5 4 = .ok (.arraylength, 1) := by decide +kernel
theorem dJ0_length_8abf5_5 : decode cJ0_length_8abf5 5 = .ok (.aload_n 0, 1) := by decide +kernel
theorem dJ0_length_8abf5_6 : decode cJ0_length_8abf5 6 = .ok (.invokevirtual 335, 3) := by decide +kernel
theorem dJ0_length_8abf5_9 : decode cJ0_length_8abf5 9 = .ok (.ishr, 1) := by decide +kernel
theorem dJ0_length_8abf5_10 : decode cJ0_length_8abf5 10 = .ok (.ireturn, 1) := by decide +kernel
theorem dJ0_charAt_5068e_0 : decode cJ0_charAt_5068e 0 = .ok (.aload_n 0, 1) := by decide +kernel
theorem dJ0_charAt_5068e_1 : decode cJ0_charAt_5068e 1 = .ok (.invokevirtual 492, 3) := by decide +kernel
theorem dJ0_charAt_5068e_4 : decode cJ0_charAt_5068e 4 = .ok (.ifCond .eq 12, 3) := by decide +kernel
theorem dJ0_charAt_5068e_7 : decode cJ0_charAt_5068e 7 = .ok (.aload_n 0, 1) := by decide +kernel
theorem dJ0_charAt_5068e_8 : decode cJ0_charAt_5068e 8 = .ok (.getfield 9, 3) := by decide +kernel
theorem dJ0_charAt_5068e_11 : decode cJ0_charAt_5068e 11 = .ok (.iload_n 1, 1) := by decide +kernel
theorem dJ0_charAt_5068e_12 : decode cJ0_charAt_5068e 12 = .ok (.invokestatic 495, 3) := by decide +kernel
theorem dJ0_charAt_5068e_15 : decode cJ0_charAt_5068e 15 = .ok (.ireturn, 1) := by decide +kernel
theorem dJ0_charAt_5068e_16 : decode cJ0_charAt_5068e 16 = .ok (.aload_n 0, 1) := by decide +kernel
theorem dJ0_charAt_5068e_17 : decode cJ0_charAt_5068e 17 = .ok (.getfield 9, 3) := by decide +kernel
theorem dJ0_charAt_5068e_20 : decode cJ0_charAt_5068e 20 = .ok (.iload_n 1, 1) := by decide +kernel
theorem dJ0_charAt_5068e_21 : decode cJ0_charAt_5068e 21 = .ok (.invokestatic 498, 3) := by decide +kernel
theorem dJ0_charAt_5068e_24 : decode cJ0_charAt_5068e 24 = .ok (.ireturn, 1) := by decide +kernel
theorem dJ0_coder_7d493_0 : decode cJ0_coder_7d493 0 = .ok (.getstatic 38, 3) := by decide +kernel
theorem dJ0_coder_7d493_3 : decode cJ0_coder_7d493 3 = .ok (.ifCond .eq 10, 3) := by decide +kernel
theorem dJ0_coder_7d493_6 : decode cJ0_coder_7d493 6 = .ok (.aload_n 0, 1) := by decide +kernel
theorem dJ0_coder_7d493_7 : decode cJ0_coder_7d493 7 = .ok (.getfield 15, 3) := by decide +kernel
theorem dJ0_coder_7d493_10 : decode cJ0_coder_7d493 10 = .ok (.goto 4, 3) := by decide +kernel
theorem dJ0_coder_7d493_13 : decode cJ0_coder_7d493 13 = .ok (.iconst 1, 1) := by decide +kernel
theorem dJ0_coder_7d493_14 : decode cJ0_coder_7d493 14 = .ok (.ireturn, 1) := by decide +kernel
theorem dJ0_isLatin1_aae02_0 : decode cJ0_isLatin1_aae02 0 = .ok (.getstatic 38, 3) := by decide +kernel
theorem dJ0_isLatin1_aae02_3 : decode cJ0_isLatin1_aae02 3 = .ok (.ifCond .eq 14, 3) := by decide +kernel
theorem dJ0_isLatin1_aae02_6 : decode cJ0_isLatin1_aae02 6 = .ok (.aload_n 0, 1) := by decide +kernel
theorem dJ0_isLatin1_aae02_7 : decode cJ0_isLatin1_aae02 7 = .ok (.getfield 15, 3) := by decide +kernel
theorem dJ0_isLatin1_aae02_10 : decode cJ0_isLatin1_aae02 10 = .ok (.ifCond .ne 7, 3) := by decide +kernel
theorem dJ0_isLatin1_aae02_13 : decode cJ0_isLatin1_aae02 13 = .ok (.iconst 1, 1) := by decide +kernel
theorem dJ0_isLatin1_aae02_14 : decode cJ0_isLatin1_aae02 14 = .ok (.goto 4, 3) := by decide +kernel
theorem dJ0_isLatin1_aae02_17 : decode cJ0_isLatin1_aae02 17 = .ok (.iconst 0, 1) := by decide +kernel
theorem dJ0_isLatin1_aae02_18 : decode cJ0_isLatin1_aae02 18 = .ok (.ireturn, 1) := by decide +kernel
theorem dJ0_checkIndex_df160_0 : decode cJ0_checkIndex_df160 0 = .ok (.iload_n 0, 1) := by decide +kernel
theorem dJ0_checkIndex_df160_1 : decode cJ0_checkIndex_df160 1 = .ok (.iload_n 1, 1) := by decide +kernel
theorem dJ0_checkIndex_df160_2 : decode cJ0_checkIndex_df160 2 = .ok (.getstatic 1053, 3) := by decide +kernel
theorem dJ0_checkIndex_df160_5 : decode cJ0_checkIndex_df160 5 = .ok (.invokestatic 1059, 3) := by decide +kernel
theorem dJ0_checkIndex_df160_8 : decode cJ0_checkIndex_df160 8 = .ok (.pop, 1) := by decide +kernel
theorem dJ0_checkIndex_df160_9 : decode cJ0_checkIndex_df160 9 = .ok (.return_, 1) := by decide +kernel
theorem dJ1_charAt_3b067_0 : decode cJ1_charAt_3b067 0 = .ok (.iload_n 1, 1) := by decide +kernel
theorem dJ1_charAt_3b067_1 : decode cJ1_charAt_3b067 1 = .ok (.aload_n 0, 1) := by decide +kernel
theorem dJ1_charAt_3b067_2 : decode cJ1_charAt_3b067 2 = .ok (.arraylength, 1) := by decide +kernel
theorem dJ1_charAt_3b067_3 : decode cJ1_charAt_3b067 3 = .ok (.invokestatic 9, 3) := by decide +kernel
theorem dJ1_charAt_3b067_6 : decode cJ1_charAt_3b067 6 = .ok (.aload_n 0, 1) := by decide +kernel
theorem dJ1_charAt_3b067_7 : decode cJ1_charAt_3b067 7 = .ok (.iload_n 1, 1) := by decide +kernel
theorem dJ1_charAt_3b067_8 : decode cJ1_charAt_3b067 8 = .ok (.baload, 1) := by decide +kernel
theorem dJ1_charAt_3b067_9 : decode cJ1_charAt_3b067 9 = .ok (.sipush 255, 3) := by decide +kernel
theorem dJ1_charAt_3b067_12 : decode cJ1_charAt_3b067 12 = .ok (.iand, 1) := by decide +kernel
theorem dJ1_charAt_3b067_13 : decode cJ1_charAt_3b067 13 = .ok (.i2c, 1) := by decide +kernel
theorem dJ1_charAt_3b067_14 : decode cJ1_charAt_3b067 14 = .ok (.ireturn, 1) := by decide +kernel
theorem dJ2_getChar_3b067_0 : decode cJ2_getChar_3b067 0 = .ok (.getstatic 44, 3) := by decide +kernel
theorem dJ2_getChar_3b067_3 : decode cJ2_getChar_3b067 3 = .ok (.ifCond .ne 25, 3) := by decide +kernel
theorem dJ2_getChar_3b067_6 : decode cJ2_getChar_3b067 6 = .ok (.iload_n 1, 1) := by decide +kernel
theorem dJ2_getChar_3b067_7 : decode cJ2_getChar_3b067 7 = .ok (.ifCond .lt 11, 3) := by decide +kernel
theorem dJ2_getChar_3b067_10 : decode cJ2_getChar_3b067 10 = .ok (.iload_n 1, 1) := by decide +kernel
theorem dJ2_getChar_3b067_11 : decode cJ2_getChar_3b067 11 = .ok (.aload_n 0, 1) := by decide +kernel
theorem dJ2_getChar_3b067_12 : decode cJ2_getChar_3b067 12 = .ok (.invokestatic 48, 3) := by decide +kernel
theorem dJ2_getChar_3b067_15 : decode cJ2_getChar_3b067 15 = .ok (.if_icmp .lt 13, 3) := by decide +kernel
theorem dJ2_getChar_3b067_18 : decode cJ2_getChar_3b067 18 = .ok (.new 52, 3) := by decide +kernel
theorem dJ2_getChar_3b067_21 : decode cJ2_getChar_3b067 21 = .ok (.dup, 1) := by decide +kernel
theorem dJ2_getChar_3b067_22 : decode cJ2_getChar_3b067 22 = .ok (.ldc 54, 2) := by decide +kernel
theorem dJ2_getChar_3b067_24 : decode cJ2_getChar_3b067 24 = .ok (.invokespecial 56, 3) := by decide +kernel
theorem dJ2_getChar_3b067_27 : decode cJ2_getChar_3b067 27 = .ok (.athrow, 1) := by decide +kernel
theorem dJ2_getChar_3b067_28 : decode cJ2_getChar_3b067 28 = .ok (.iload_n 1, 1) := by decide +kernel
theorem dJ2_getChar_3b067_29 : decode cJ2_getChar_3b067 29 = .ok (.iconst 1, 1) := by decide +kernel
theorem dJ2_getChar_3b067_30 : decode cJ2_getChar_3b067 30 = .ok (.ishl, 1) := by decide +kernel
theorem dJ2_getChar_3b067_31 : decode cJ2_getChar_3b067 31 = .ok (.istore_n 1, 1) := by decide +kernel
theorem dJ2_getChar_3b067_32 : decode cJ2_getChar_3b067 32 = .ok (.aload_n 0, 1) := by decide +kernel
theorem dJ2_getChar_3b067_33 : decode cJ2_getChar_3b067 33 = .ok (.iload_n 1, 1) := by decide +kernel
theorem dJ2_getChar_3b067_34 : decode cJ2_getChar_3b067 34 = .ok (.iinc 1 1, 3) := by decide +kernel
theorem dJ2_getChar_3b067_37 : decode cJ2_getChar_3b067 37 = .ok (.baload, 1) := by decide +kernel
theorem dJ2_getChar_3b067_38 : decode cJ2_getChar_3b067 38 = .ok (.sipush 255, 3) := by decide +kernel
theorem dJ2_getChar_3b067_41 : decode cJ2_getChar_3b067 41 = .ok (.iand, 1) := by decide +kernel
theorem dJ2_getChar_3b067_42 : decode cJ2_getChar_3b067 42 = .ok (.getstatic 59, 3) := by decide +kernel
theorem dJ2_getChar_3b067_45 : decode cJ2_getChar_3b067 45 = .ok (.ishl, 1) := by decide +kernel
theorem dJ2_getChar_3b067_46 : decode cJ2_getChar_3b067 46 = .ok (.aload_n 0, 1) := by decide +kernel
theorem dJ2_getChar_3b067_47 : decode cJ2_getChar_3b067 47 = .ok (.iload_n 1, 1) := by decide +kernel
theorem dJ2_getChar_3b067_48 : decode cJ2_getChar_3b067 48 = .ok (.baload, 1) := by decide +kernel
theorem dJ2_getChar_3b067_49 : decode cJ2_getChar_3b067 49 = .ok (.sipush 255, 3) := by decide +kernel
theorem dJ2_getChar_3b067_52 : decode cJ2_getChar_3b067 52 = .ok (.iand, 1) := by decide +kernel
theorem dJ2_getChar_3b067_53 : decode cJ2_getChar_3b067 53 = .ok (.getstatic 63, 3) := by decide +kernel
theorem dJ2_getChar_3b067_56 : decode cJ2_getChar_3b067 56 = .ok (.ishl, 1) := by decide +kernel
theorem dJ2_getChar_3b067_57 : decode cJ2_getChar_3b067 57 = .ok (.ior, 1) := by decide +kernel
theorem dJ2_getChar_3b067_58 : decode cJ2_getChar_3b067 58 = .ok (.i2c, 1) := by decide +kernel
theorem dJ2_getChar_3b067_59 : decode cJ2_getChar_3b067 59 = .ok (.ireturn, 1) := by decide +kernel
theorem dJ2_length_9d52b_0 : decode cJ2_length_9d52b 0 = .ok (.aload_n 0, 1) := by decide +kernel
theorem dJ2_length_9d52b_1 : decode cJ2_length_9d52b 1 = .ok (.arraylength, 1) := by decide +kernel
theorem dJ2_length_9d52b_2 : decode cJ2_length_9d52b 2 = .ok (.iconst 1, 1) := by decide +kernel
theorem dJ2_length_9d52b_3 : decode cJ2_length_9d52b 3 = .ok (.ishr, 1) := by decide +kernel
theorem dJ2_length_9d52b_4 : decode cJ2_length_9d52b 4 = .ok (.ireturn, 1) := by decide +kernel
theorem dJ2_charAt_3b067_0 : decode cJ2_charAt_3b067 0 = .ok (.iload_n 1, 1) := by decide +kernel
theorem dJ2_charAt_3b067_1 : decode cJ2_charAt_3b067 1 = .ok (.aload_n 0, 1) := by decide +kernel
theorem dJ2_charAt_3b067_2 : decode cJ2_charAt_3b067 2 = .ok (.invokestatic 67, 3) := by decide +kernel
theorem dJ2_charAt_3b067_5 : decode cJ2_charAt_3b067 5 = .ok (.aload_n 0, 1) := by decide +kernel
theorem dJ2_charAt_3b067_6 : decode cJ2_charAt_3b067 6 = .ok (.iload_n 1, 1) := by decide +kernel
theorem dJ2_charAt_3b067_7 : decode cJ2_charAt_3b067 7 = .ok (.invokestatic 71, 3) := by decide +kernel
theorem dJ2_charAt_3b067_10 : decode cJ2_charAt_3b067 10 = .ok (.ireturn, 1) := by decide +kernel
theorem dJ2_checkIndex_2214a_0 : decode cJ2_checkIndex_2214a 0 = .ok (.iload_n 0, 1) := by decide +kernel
theorem dJ2_checkIndex_2214a_1 : decode cJ2_checkIndex_2214a 1 = .ok (.aload_n 1, 1) := by decide +kernel
theorem dJ2_checkIndex_2214a_2 : decode cJ2_checkIndex_2214a 2 = .ok (.invokestatic 48, 3) := by decide +kernel
theorem dJ2_checkIndex_2214a_5 : decode cJ2_checkIndex_2214a 5 = .ok (.invokestatic 414, 3) := by decide +kernel
theorem dJ2_checkIndex_2214a_8 : decode cJ2_checkIndex_2214a 8 = .ok (.return_, 1) := by decide +kernel
theorem dJ7_fill_53178_0 : decode cJ7_fill_53178 0 = .ok (.iconst 0, 1) := by decide +kernel
theorem dJ7_fill_53178_1 : decode cJ7_fill_53178 1 = .ok (.istore_n 2, 1) := by decide +kernel
theorem dJ7_fill_53178_2 : decode cJ7_fill_53178 2 = .ok (.aload_n 0, 1) := by decide +kernel
theorem dJ7_fill_53178_3 : decode cJ7_fill_53178 3 = .ok (.arraylength, 1) := by decide +kernel
theorem dJ7_fill_53178_4 : decode cJ7_fill_53178 4 = .ok (.istore_n 3, 1) := by decide +kernel
theorem dJ7_fill_53178_5 : decode cJ7_fill_53178 5 = .ok (.iload_n 2, 1) := by decide +kernel
theorem dJ7_fill_53178_6 : decode cJ7_fill_53178 6 = .ok (.iload_n 3, 1) := by decide +kernel
theorem dJ7_fill_53178_7 : decode cJ7_fill_53178 7 = .ok (.if_icmp .ge 13, 3) := by decide +kernel
theorem dJ7_fill_53178_10 : decode cJ7_fill_53178 10 = .ok (.aload_n 0, 1) := by decide +kernel
theorem dJ7_fill_53178_11 : decode cJ7_fill_53178 11 = .ok (.iload_n 2, 1) := by decide +kernel
theorem dJ7_fill_53178_12 : decode cJ7_fill_53178 12 = .ok (.iload_n 1, 1) := by decide +kernel
theorem dJ7_fill_53178_13 : decode cJ7_fill_53178 13 = .ok (.iastore, 1) := by decide +kernel
theorem dJ7_fill_53178_14 : decode cJ7_fill_53178 14 = .ok (.iinc 2 1, 3) := by decide +kernel
theorem dJ7_fill_53178_17 : decode cJ7_fill_53178 17 = .ok (.goto (-12), 3) := by decide +kernel
theorem dJ7_fill_53178_20 : decode cJ7_fill_53178 20 = .ok (.return_, 1) := by decide +kernel
theorem dJ3_checkIndex_8e157_0 : decode cJ3_checkIndex_8e157 0 = .ok (.iload_n 0, 1) := by decide +kernel
theorem dJ3_checkIndex_8e157_1 : decode cJ3_checkIndex_8e157 1 = .ok (.ifCond .lt 8, 3) := by decide +kernel
theorem dJ3_checkIndex_8e157_4 : decode cJ3_checkIndex_8e157 4 = .ok (.iload_n 0, 1) := by decide +kernel
theorem dJ3_checkIndex_8e157_5 : decode cJ3_checkIndex_8e157 5 = .ok (.iload_n 1, 1) := by decide +kernel
theorem dJ3_checkIndex_8e157_6 : decode cJ3_checkIndex_8e157 6 = .ok (.if_icmp .lt 10, 3) := by decide +kernel
theorem dJ3_checkIndex_8e157_9 : decode cJ3_checkIndex_8e157 9 = .ok (.aload_n 2, 1) := by decide +kernel
theorem dJ3_checkIndex_8e157_10 : decode cJ3_checkIndex_8e157 10 = .ok (.iload_n 0, 1) := by decide +kernel
theorem dJ3_checkIndex_8e157_11 : decode cJ3_checkIndex_8e157 11 = .ok (.iload_n 1, 1) := by decide +kernel
theorem dJ3_checkIndex_8e157_12 : decode cJ3_checkIndex_8e157 12 = .ok (.invokestatic 95, 3) := by decide +kernel
theorem dJ3_checkIndex_8e157_15 : decode cJ3_checkIndex_8e157 15 = .ok (.athrow, 1) := by decide +kernel
theorem dJ3_checkIndex_8e157_16 : decode cJ3_checkIndex_8e157 16 = .ok (.iload_n 0, 1) := by decide +kernel
theorem dJ3_checkIndex_8e157_17 : decode cJ3_checkIndex_8e157 17 = .ok (.ireturn, 1) := by decide +kernel
theorem dL_law_0 : decode cL_law 0 = .ok (.new 7, 3) := by decide +kernel
theorem dL_law_3 : decode cL_law 3 = .ok (.dup, 1) := by decide +kernel
theorem dL_law_4 : decode cL_law 4 = .ok (.invokespecial 9, 3) := by decide +kernel
theorem dL_law_7 : decode cL_law 7 = .ok (.astore_n 1, 1) := by decide +kernel
theorem dL_law_8 : decode cL_law 8 = .ok (.new 10, 3) := by decide +kernel
theorem dL_law_11 : decode cL_law 11 = .ok (.dup, 1) := by decide +kernel
theorem dL_law_12 : decode cL_law 12 = .ok (.invokespecial 12, 3) := by decide +kernel
theorem dL_law_15 : decode cL_law 15 = .ok (.astore_n 2, 1) := by decide +kernel
theorem dL_law_16 : decode cL_law 16 = .ok (.iconst 0, 1) := by decide +kernel
theorem dL_law_17 : decode cL_law 17 = .ok (.istore_n 3, 1) := by decide +kernel
theorem dL_law_18 : decode cL_law 18 = .ok (.iload_n 3, 1) := by decide +kernel
theorem dL_law_19 : decode cL_law 19 = .ok (.aload_n 0, 1) := by decide +kernel
theorem dL_law_20 : decode cL_law 20 = .ok (.arraylength, 1) := by decide +kernel
theorem dL_law_21 : decode cL_law 21 = .ok (.bipush 6, 2) := by decide +kernel
theorem dL_law_23 : decode cL_law 23 = .ok (.isub, 1) := by decide +kernel
theorem dL_law_24 : decode cL_law 24 = .ok (.if_icmp .gt 926, 3) := by decide +kernel
theorem dL_law_27 : decode cL_law 27 = .ok (.aload_n 0, 1) := by decide +kernel
theorem dL_law_28 : decode cL_law 28 = .ok (.iload_n 3, 1) := by decide +kernel
theorem dL_law_29 : decode cL_law 29 = .ok (.iaload, 1) := by decide +kernel
theorem dL_law_30 : decode cL_law 30 = .ok (.bipush 31, 2) := by decide +kernel
theorem dL_law_32 : decode cL_law 32 = .ok (.iand, 1) := by decide +kernel
theorem dL_law_33 : decode cL_law 33 = .ok (.tableswitch 911 0 27 #[127, 170, 213, 276, 299, 362, 375, 388, 421, 454, 487, 500, 533, 556, 569, 592, 615, 628, 651, 684, 707, 720, 763, 786, 819, 852, 875, 898], 127) := by decide +kernel
theorem dL_law_160 : decode cL_law 160 = .ok (.aload_n 1, 1) := by decide +kernel
theorem dL_law_161 : decode cL_law 161 = .ok (.aload_n 0, 1) := by decide +kernel
theorem dL_law_162 : decode cL_law 162 = .ok (.iload_n 3, 1) := by decide +kernel
theorem dL_law_163 : decode cL_law 163 = .ok (.iconst 1, 1) := by decide +kernel
theorem dL_law_164 : decode cL_law 164 = .ok (.iadd, 1) := by decide +kernel
theorem dL_law_165 : decode cL_law 165 = .ok (.iaload, 1) := by decide +kernel
theorem dL_law_166 : decode cL_law 166 = .ok (.aload_n 0, 1) := by decide +kernel
theorem dL_law_167 : decode cL_law 167 = .ok (.iload_n 3, 1) := by decide +kernel
theorem dL_law_168 : decode cL_law 168 = .ok (.iconst 2, 1) := by decide +kernel
theorem dL_law_169 : decode cL_law 169 = .ok (.iadd, 1) := by decide +kernel
theorem dL_law_170 : decode cL_law 170 = .ok (.iaload, 1) := by decide +kernel
theorem dL_law_171 : decode cL_law 171 = .ok (.aload_n 0, 1) := by decide +kernel
theorem dL_law_172 : decode cL_law 172 = .ok (.iload_n 3, 1) := by decide +kernel
theorem dL_law_173 : decode cL_law 173 = .ok (.iconst 3, 1) := by decide +kernel
theorem dL_law_174 : decode cL_law 174 = .ok (.iadd, 1) := by decide +kernel
theorem dL_law_175 : decode cL_law 175 = .ok (.iaload, 1) := by decide +kernel
theorem dL_law_176 : decode cL_law 176 = .ok (.invokevirtual 13, 3) := by decide +kernel
theorem dL_law_179 : decode cL_law 179 = .ok (.aload_n 2, 1) := by decide +kernel
theorem dL_law_180 : decode cL_law 180 = .ok (.aload_n 0, 1) := by decide +kernel
theorem dL_law_181 : decode cL_law 181 = .ok (.iload_n 3, 1) := by decide +kernel
theorem dL_law_182 : decode cL_law 182 = .ok (.iconst 1, 1) := by decide +kernel
theorem dL_law_183 : decode cL_law 183 = .ok (.iadd, 1) := by decide +kernel
theorem dL_law_184 : decode cL_law 184 = .ok (.iaload, 1) := by decide +kernel
theorem dL_law_185 : decode cL_law 185 = .ok (.aload_n 0, 1) := by decide +kernel
theorem dL_law_186 : decode cL_law 186 = .ok (.iload_n 3, 1) := by decide +kernel
theorem dL_law_187 : decode cL_law 187 = .ok (.iconst 2, 1) := by decide +kernel
theorem dL_law_188 : decode cL_law 188 = .ok (.iadd, 1) := by decide +kernel
theorem dL_law_189 : decode cL_law 189 = .ok (.iaload, 1) := by decide +kernel
theorem dL_law_190 : decode cL_law 190 = .ok (.aload_n 0, 1) := by decide +kernel
theorem dL_law_191 : decode cL_law 191 = .ok (.iload_n 3, 1) := by decide +kernel
theorem dL_law_192 : decode cL_law 192 = .ok (.iconst 3, 1) := by decide +kernel
theorem dL_law_193 : decode cL_law 193 = .ok (.iadd, 1) := by decide +kernel
theorem dL_law_194 : decode cL_law 194 = .ok (.iaload, 1) := by decide +kernel
theorem dL_law_195 : decode cL_law 195 = .ok (.invokevirtual 17, 3) := by decide +kernel
theorem dL_law_198 : decode cL_law 198 = .ok (.if_icmp .eq 746, 3) := by decide +kernel
theorem dL_law_201 : decode cL_law 201 = .ok (.iconst 0, 1) := by decide +kernel
theorem dL_law_202 : decode cL_law 202 = .ok (.ireturn, 1) := by decide +kernel
theorem dL_law_203 : decode cL_law 203 = .ok (.aload_n 1, 1) := by decide +kernel
theorem dL_law_204 : decode cL_law 204 = .ok (.aload_n 0, 1) := by decide +kernel
theorem dL_law_205 : decode cL_law 205 = .ok (.iload_n 3, 1) := by decide +kernel
theorem dL_law_206 : decode cL_law 206 = .ok (.iconst 1, 1) := by decide +kernel
theorem dL_law_207 : decode cL_law 207 = .ok (.iadd, 1) := by decide +kernel
theorem dL_law_208 : decode cL_law 208 = .ok (.iaload, 1) := by decide +kernel
theorem dL_law_209 : decode cL_law 209 = .ok (.aload_n 0, 1) := by decide +kernel
theorem dL_law_210 : decode cL_law 210 = .ok (.iload_n 3, 1) := by decide +kernel
theorem dL_law_211 : decode cL_law 211 = .ok (.iconst 2, 1) := by decide +kernel
theorem dL_law_212 : decode cL_law 212 = .ok (.iadd, 1) := by decide +kernel
theorem dL_law_213 : decode cL_law 213 = .ok (.iaload, 1) := by decide +kernel
theorem dL_law_214 : decode cL_law 214 = .ok (.aload_n 0, 1) := by decide +kernel
theorem dL_law_215 : decode cL_law 215 = .ok (.iload_n 3, 1) := by decide +kernel
theorem dL_law_216 : decode cL_law 216 = .ok (.iconst 3, 1) := by decide +kernel
theorem dL_law_217 : decode cL_law 217 = .ok (.iadd, 1) := by decide +kernel
theorem dL_law_218 : decode cL_law 218 = .ok (.iaload, 1) := by decide +kernel
theorem dL_law_219 : decode cL_law 219 = .ok (.invokevirtual 18, 3) := by decide +kernel
theorem dL_law_222 : decode cL_law 222 = .ok (.aload_n 2, 1) := by decide +kernel
theorem dL_law_223 : decode cL_law 223 = .ok (.aload_n 0, 1) := by decide +kernel
theorem dL_law_224 : decode cL_law 224 = .ok (.iload_n 3, 1) := by decide +kernel
theorem dL_law_225 : decode cL_law 225 = .ok (.iconst 1, 1) := by decide +kernel
theorem dL_law_226 : decode cL_law 226 = .ok (.iadd, 1) := by decide +kernel
theorem dL_law_227 : decode cL_law 227 = .ok (.iaload, 1) := by decide +kernel
theorem dL_law_228 : decode cL_law 228 = .ok (.aload_n 0, 1) := by decide +kernel
theorem dL_law_229 : decode cL_law 229 = .ok (.iload_n 3, 1) := by decide +kernel
theorem dL_law_230 : decode cL_law 230 = .ok (.iconst 2, 1) := by decide +kernel
theorem dL_law_231 : decode cL_law 231 = .ok (.iadd, 1) := by decide +kernel
theorem dL_law_232 : decode cL_law 232 = .ok (.iaload, 1) := by decide +kernel
theorem dL_law_233 : decode cL_law 233 = .ok (.aload_n 0, 1) := by decide +kernel
theorem dL_law_234 : decode cL_law 234 = .ok (.iload_n 3, 1) := by decide +kernel
theorem dL_law_235 : decode cL_law 235 = .ok (.iconst 3, 1) := by decide +kernel
theorem dL_law_236 : decode cL_law 236 = .ok (.iadd, 1) := by decide +kernel
theorem dL_law_237 : decode cL_law 237 = .ok (.iaload, 1) := by decide +kernel
theorem dL_law_238 : decode cL_law 238 = .ok (.invokevirtual 21, 3) := by decide +kernel
theorem dL_law_241 : decode cL_law 241 = .ok (.if_icmp .eq 703, 3) := by decide +kernel
theorem dL_law_244 : decode cL_law 244 = .ok (.iconst 0, 1) := by decide +kernel
theorem dL_law_245 : decode cL_law 245 = .ok (.ireturn, 1) := by decide +kernel
theorem dL_law_246 : decode cL_law 246 = .ok (.aload_n 1, 1) := by decide +kernel
theorem dL_law_247 : decode cL_law 247 = .ok (.aload_n 0, 1) := by decide +kernel
theorem dL_law_248 : decode cL_law 248 = .ok (.iload_n 3, 1) := by decide +kernel
theorem dL_law_249 : decode cL_law 249 = .ok (.iconst 1, 1) := by decide +kernel
theorem dL_law_250 : decode cL_law 250 = .ok (.iadd, 1) := by decide +kernel
theorem dL_law_251 : decode cL_law 251 = .ok (.iaload, 1) := by decide +kernel
theorem dL_law_252 : decode cL_law 252 = .ok (.aload_n 0, 1) := by decide +kernel
theorem dL_law_253 : decode cL_law 253 = .ok (.iload_n 3, 1) := by decide +kernel
theorem dL_law_254 : decode cL_law 254 = .ok (.iconst 2, 1) := by decide +kernel
theorem dL_law_255 : decode cL_law 255 = .ok (.iadd, 1) := by decide +kernel
theorem dL_law_256 : decode cL_law 256 = .ok (.iaload, 1) := by decide +kernel
theorem dL_law_257 : decode cL_law 257 = .ok (.aload_n 0, 1) := by decide +kernel
theorem dL_law_258 : decode cL_law 258 = .ok (.iload_n 3, 1) := by decide +kernel
theorem dL_law_259 : decode cL_law 259 = .ok (.iconst 3, 1) := by decide +kernel
theorem dL_law_260 : decode cL_law 260 = .ok (.iadd, 1) := by decide +kernel
theorem dL_law_261 : decode cL_law 261 = .ok (.iaload, 1) := by decide +kernel
theorem dL_law_262 : decode cL_law 262 = .ok (.aload_n 0, 1) := by decide +kernel
theorem dL_law_263 : decode cL_law 263 = .ok (.iload_n 3, 1) := by decide +kernel
theorem dL_law_264 : decode cL_law 264 = .ok (.iconst 4, 1) := by decide +kernel
theorem dL_law_265 : decode cL_law 265 = .ok (.iadd, 1) := by decide +kernel
theorem dL_law_266 : decode cL_law 266 = .ok (.iaload, 1) := by decide +kernel
theorem dL_law_267 : decode cL_law 267 = .ok (.aload_n 0, 1) := by decide +kernel
theorem dL_law_268 : decode cL_law 268 = .ok (.iload_n 3, 1) := by decide +kernel
theorem dL_law_269 : decode cL_law 269 = .ok (.iconst 5, 1) := by decide +kernel
theorem dL_law_270 : decode cL_law 270 = .ok (.iadd, 1) := by decide +kernel
theorem dL_law_271 : decode cL_law 271 = .ok (.iaload, 1) := by decide +kernel
theorem dL_law_272 : decode cL_law 272 = .ok (.invokevirtual 22, 3) := by decide +kernel
theorem dL_law_275 : decode cL_law 275 = .ok (.aload_n 2, 1) := by decide +kernel
theorem dL_law_276 : decode cL_law 276 = .ok (.aload_n 0, 1) := by decide +kernel
theorem dL_law_277 : decode cL_law 277 = .ok (.iload_n 3, 1) := by decide +kernel
theorem dL_law_278 : decode cL_law 278 = .ok (.iconst 1, 1) := by decide +kernel
theorem dL_law_279 : decode cL_law 279 = .ok (.iadd, 1) := by decide +kernel
theorem dL_law_280 : decode cL_law 280 = .ok (.iaload, 1) := by decide +kernel
theorem dL_law_281 : decode cL_law 281 = .ok (.aload_n 0, 1) := by decide +kernel
theorem dL_law_282 : decode cL_law 282 = .ok (.iload_n 3, 1) := by decide +kernel
theorem dL_law_283 : decode cL_law 283 = .ok (.iconst 2, 1) := by decide +kernel
theorem dL_law_284 : decode cL_law 284 = .ok (.iadd, 1) := by decide +kernel
theorem dL_law_285 : decode cL_law 285 = .ok (.iaload, 1) := by decide +kernel
theorem dL_law_286 : decode cL_law 286 = .ok (.aload_n 0, 1) := by decide +kernel
theorem dL_law_287 : decode cL_law 287 = .ok (.iload_n 3, 1) := by decide +kernel
theorem dL_law_288 : decode cL_law 288 = .ok (.iconst 3, 1) := by decide +kernel
theorem dL_law_289 : decode cL_law 289 = .ok (.iadd, 1) := by decide +kernel
theorem dL_law_290 : decode cL_law 290 = .ok (.iaload, 1) := by decide +kernel
theorem dL_law_291 : decode cL_law 291 = .ok (.aload_n 0, 1) := by decide +kernel
theorem dL_law_292 : decode cL_law 292 = .ok (.iload_n 3, 1) := by decide +kernel
theorem dL_law_293 : decode cL_law 293 = .ok (.iconst 4, 1) := by decide +kernel
theorem dL_law_294 : decode cL_law 294 = .ok (.iadd, 1) := by decide +kernel
theorem dL_law_295 : decode cL_law 295 = .ok (.iaload, 1) := by decide +kernel
theorem dL_law_296 : decode cL_law 296 = .ok (.aload_n 0, 1) := by decide +kernel
theorem dL_law_297 : decode cL_law 297 = .ok (.iload_n 3, 1) := by decide +kernel
theorem dL_law_298 : decode cL_law 298 = .ok (.iconst 5, 1) := by decide +kernel
theorem dL_law_299 : decode cL_law 299 = .ok (.iadd, 1) := by decide +kernel
theorem dL_law_300 : decode cL_law 300 = .ok (.iaload, 1) := by decide +kernel
theorem dL_law_301 : decode cL_law 301 = .ok (.invokevirtual 26, 3) := by decide +kernel
theorem dL_law_304 : decode cL_law 304 = .ok (.if_icmp .eq 640, 3) := by decide +kernel
theorem dL_law_307 : decode cL_law 307 = .ok (.iconst 0, 1) := by decide +kernel
theorem dL_law_308 : decode cL_law 308 = .ok (.ireturn, 1) := by decide +kernel
theorem dL_law_309 : decode cL_law 309 = .ok (.aload_n 1, 1) := by decide +kernel
theorem dL_law_310 : decode cL_law 310 = .ok (.aload_n 0, 1) := by decide +kernel
theorem dL_law_311 : decode cL_law 311 = .ok (.iload_n 3, 1) := by decide +kernel
theorem dL_law_312 : decode cL_law 312 = .ok (.iconst 1, 1) := by decide +kernel
theorem dL_law_313 : decode cL_law 313 = .ok (.iadd, 1) := by decide +kernel
theorem dL_law_314 : decode cL_law 314 = .ok (.iaload, 1) := by decide +kernel
theorem dL_law_315 : decode cL_law 315 = .ok (.invokevirtual 27, 3) := by decide +kernel
theorem dL_law_318 : decode cL_law 318 = .ok (.aload_n 2, 1) := by decide +kernel
theorem dL_law_319 : decode cL_law 319 = .ok (.aload_n 0, 1) := by decide +kernel
theorem dL_law_320 : decode cL_law 320 = .ok (.iload_n 3, 1) := by decide +kernel
theorem dL_law_321 : decode cL_law 321 = .ok (.iconst 1, 1) := by decide +kernel
theorem dL_law_322 : decode cL_law 322 = .ok (.iadd, 1) := by decide +kernel
theorem dL_law_323 : decode cL_law 323 = .ok (.iaload, 1) := by decide +kernel
theorem dL_law_324 : decode cL_law 324 = .ok (.invokevirtual 31, 3) := by decide +kernel
theorem dL_law_327 : decode cL_law 327 = .ok (.if_icmp .eq 617, 3) := by decide +kernel
theorem dL_law_330 : decode cL_law 330 = .ok (.iconst 0, 1) := by decide +kernel
theorem dL_law_331 : decode cL_law 331 = .ok (.ireturn, 1) := by decide +kernel
theorem dL_law_332 : decode cL_law 332 = .ok (.aload_n 1, 1) := by decide +kernel
theorem dL_law_333 : decode cL_law 333 = .ok (.aload_n 0, 1) := by decide +kernel
theorem dL_law_334 : decode cL_law 334 = .ok (.iload_n 3, 1) := by decide +kernel
theorem dL_law_335 : decode cL_law 335 = .ok (.iconst 1, 1) := by decide +kernel
theorem dL_law_336 : decode cL_law 336 = .ok (.iadd, 1) := by decide +kernel
theorem dL_law_337 : decode cL_law 337 = .ok (.iaload, 1) := by decide +kernel
theorem dL_law_338 : decode cL_law 338 = .ok (.i2l, 1) := by decide +kernel
theorem dL_law_339 : decode cL_law 339 = .ok (.bipush 32, 2) := by decide +kernel
theorem dL_law_341 : decode cL_law 341 = .ok (.lshl, 1) := by decide +kernel
theorem dL_law_342 : decode cL_law 342 = .ok (.aload_n 0, 1) := by decide +kernel
theorem dL_law_343 : decode cL_law 343 = .ok (.iload_n 3, 1) := by decide +kernel
theorem dL_law_344 : decode cL_law 344 = .ok (.iconst 2, 1) := by decide +kernel
theorem dL_law_345 : decode cL_law 345 = .ok (.iadd, 1) := by decide +kernel
theorem dL_law_346 : decode cL_law 346 = .ok (.iaload, 1) := by decide +kernel
theorem dL_law_347 : decode cL_law 347 = .ok (.i2l, 1) := by decide +kernel
theorem dL_law_348 : decode cL_law 348 = .ok (.ldc2_w 32, 3) := by decide +kernel
theorem dL_law_351 : decode cL_law 351 = .ok (.land, 1) := by decide +kernel
theorem dL_law_352 : decode cL_law 352 = .ok (.lor, 1) := by decide +kernel
theorem dL_law_353 : decode cL_law 353 = .ok (.aload_n 0, 1) := by decide +kernel
theorem dL_law_354 : decode cL_law 354 = .ok (.iload_n 3, 1) := by decide +kernel
theorem dL_law_355 : decode cL_law 355 = .ok (.iconst 3, 1) := by decide +kernel
theorem dL_law_356 : decode cL_law 356 = .ok (.iadd, 1) := by decide +kernel
theorem dL_law_357 : decode cL_law 357 = .ok (.iaload, 1) := by decide +kernel
theorem dL_law_358 : decode cL_law 358 = .ok (.invokevirtual 34, 3) := by decide +kernel
theorem dL_law_361 : decode cL_law 361 = .ok (.aload_n 2, 1) := by decide +kernel
theorem dL_law_362 : decode cL_law 362 = .ok (.aload_n 0, 1) := by decide +kernel
theorem dL_law_363 : decode cL_law 363 = .ok (.iload_n 3, 1) := by decide +kernel
theorem dL_law_364 : decode cL_law 364 = .ok (.iconst 1, 1) := by decide +kernel
theorem dL_law_365 : decode cL_law 365 = .ok (.iadd, 1) := by decide +kernel
theorem dL_law_366 : decode cL_law 366 = .ok (.iaload, 1) := by decide +kernel
theorem dL_law_367 : decode cL_law 367 = .ok (.i2l, 1) := by decide +kernel
theorem dL_law_368 : decode cL_law 368 = .ok (.bipush 32, 2) := by decide +kernel
theorem dL_law_370 : decode cL_law 370 = .ok (.lshl, 1) := by decide +kernel
theorem dL_law_371 : decode cL_law 371 = .ok (.aload_n 0, 1) := by decide +kernel
theorem dL_law_372 : decode cL_law 372 = .ok (.iload_n 3, 1) := by decide +kernel
theorem dL_law_373 : decode cL_law 373 = .ok (.iconst 2, 1) := by decide +kernel
theorem dL_law_374 : decode cL_law 374 = .ok (.iadd, 1) := by decide +kernel
theorem dL_law_375 : decode cL_law 375 = .ok (.iaload, 1) := by decide +kernel
theorem dL_law_376 : decode cL_law 376 = .ok (.i2l, 1) := by decide +kernel
theorem dL_law_377 : decode cL_law 377 = .ok (.ldc2_w 32, 3) := by decide +kernel
theorem dL_law_380 : decode cL_law 380 = .ok (.land, 1) := by decide +kernel
theorem dL_law_381 : decode cL_law 381 = .ok (.lor, 1) := by decide +kernel
theorem dL_law_382 : decode cL_law 382 = .ok (.aload_n 0, 1) := by decide +kernel
theorem dL_law_383 : decode cL_law 383 = .ok (.iload_n 3, 1) := by decide +kernel
theorem dL_law_384 : decode cL_law 384 = .ok (.iconst 3, 1) := by decide +kernel
theorem dL_law_385 : decode cL_law 385 = .ok (.iadd, 1) := by decide +kernel
theorem dL_law_386 : decode cL_law 386 = .ok (.iaload, 1) := by decide +kernel
theorem dL_law_387 : decode cL_law 387 = .ok (.invokevirtual 38, 3) := by decide +kernel
theorem dL_law_390 : decode cL_law 390 = .ok (.if_icmp .eq 554, 3) := by decide +kernel
theorem dL_law_393 : decode cL_law 393 = .ok (.iconst 0, 1) := by decide +kernel
theorem dL_law_394 : decode cL_law 394 = .ok (.ireturn, 1) := by decide +kernel
theorem dL_law_395 : decode cL_law 395 = .ok (.aload_n 1, 1) := by decide +kernel
theorem dL_law_396 : decode cL_law 396 = .ok (.invokevirtual 39, 3) := by decide +kernel
theorem dL_law_399 : decode cL_law 399 = .ok (.aload_n 2, 1) := by decide +kernel
theorem dL_law_400 : decode cL_law 400 = .ok (.invokevirtual 43, 3) := by decide +kernel
theorem dL_law_403 : decode cL_law 403 = .ok (.if_icmp .eq 541, 3) := by decide +kernel
theorem dL_law_406 : decode cL_law 406 = .ok (.iconst 0, 1) := by decide +kernel
theorem dL_law_407 : decode cL_law 407 = .ok (.ireturn, 1) := by decide +kernel
theorem dL_law_408 : decode cL_law 408 = .ok (.aload_n 1, 1) := by decide +kernel
theorem dL_law_409 : decode cL_law 409 = .ok (.invokevirtual 44, 3) := by decide +kernel
theorem dL_law_412 : decode cL_law 412 = .ok (.aload_n 2, 1) := by decide +kernel
theorem dL_law_413 : decode cL_law 413 = .ok (.invokevirtual 47, 3) := by decide +kernel
theorem dL_law_416 : decode cL_law 416 = .ok (.if_icmp .eq 528, 3) := by decide +kernel
theorem dL_law_419 : decode cL_law 419 = .ok (.iconst 0, 1) := by decide +kernel
theorem dL_law_420 : decode cL_law 420 = .ok (.ireturn, 1) := by decide +kernel
theorem dL_law_421 : decode cL_law 421 = .ok (.aload_n 1, 1) := by decide +kernel
theorem dL_law_422 : decode cL_law 422 = .ok (.aload_n 0, 1) := by decide +kernel
theorem dL_law_423 : decode cL_law 423 = .ok (.iload_n 3, 1) := by decide +kernel
theorem dL_law_424 : decode cL_law 424 = .ok (.iconst 1, 1) := by decide +kernel
theorem dL_law_425 : decode cL_law 425 = .ok (.iadd, 1) := by decide +kernel
theorem dL_law_426 : decode cL_law 426 = .ok (.iaload, 1) := by decide +kernel
theorem dL_law_427 : decode cL_law 427 = .ok (.aload_n 0, 1) := by decide +kernel
theorem dL_law_428 : decode cL_law 428 = .ok (.iload_n 3, 1) := by decide +kernel
theorem dL_law_429 : decode cL_law 429 = .ok (.iconst 2, 1) := by decide +kernel
theorem dL_law_430 : decode cL_law 430 = .ok (.iadd, 1) := by decide +kernel
theorem dL_law_431 : decode cL_law 431 = .ok (.iaload, 1) := by decide +kernel
theorem dL_law_432 : decode cL_law 432 = .ok (.invokevirtual 48, 3) := by decide +kernel
theorem dL_law_435 : decode cL_law 435 = .ok (.aload_n 2, 1) := by decide +kernel
theorem dL_law_436 : decode cL_law 436 = .ok (.aload_n 0, 1) := by decide +kernel
theorem dL_law_437 : decode cL_law 437 = .ok (.iload_n 3, 1) := by decide +kernel
theorem dL_law_438 : decode cL_law 438 = .ok (.iconst 1, 1) := by decide +kernel
theorem dL_law_439 : decode cL_law 439 = .ok (.iadd, 1) := by decide +kernel
theorem dL_law_440 : decode cL_law 440 = .ok (.iaload, 1) := by decide +kernel
theorem dL_law_441 : decode cL_law 441 = .ok (.aload_n 0, 1) := by decide +kernel
theorem dL_law_442 : decode cL_law 442 = .ok (.iload_n 3, 1) := by decide +kernel
theorem dL_law_443 : decode cL_law 443 = .ok (.iconst 2, 1) := by decide +kernel
theorem dL_law_444 : decode cL_law 444 = .ok (.iadd, 1) := by decide +kernel
theorem dL_law_445 : decode cL_law 445 = .ok (.iaload, 1) := by decide +kernel
theorem dL_law_446 : decode cL_law 446 = .ok (.invokevirtual 52, 3) := by decide +kernel
theorem dL_law_449 : decode cL_law 449 = .ok (.if_icmp .eq 495, 3) := by decide +kernel
theorem dL_law_452 : decode cL_law 452 = .ok (.iconst 0, 1) := by decide +kernel
theorem dL_law_453 : decode cL_law 453 = .ok (.ireturn, 1) := by decide +kernel
theorem dL_law_454 : decode cL_law 454 = .ok (.aload_n 1, 1) := by decide +kernel
theorem dL_law_455 : decode cL_law 455 = .ok (.aload_n 0, 1) := by decide +kernel
theorem dL_law_456 : decode cL_law 456 = .ok (.iload_n 3, 1) := by decide +kernel
theorem dL_law_457 : decode cL_law 457 = .ok (.iconst 1, 1) := by decide +kernel
theorem dL_law_458 : decode cL_law 458 = .ok (.iadd, 1) := by decide +kernel
theorem dL_law_459 : decode cL_law 459 = .ok (.iaload, 1) := by decide +kernel
theorem dL_law_460 : decode cL_law 460 = .ok (.aload_n 0, 1) := by decide +kernel
theorem dL_law_461 : decode cL_law 461 = .ok (.iload_n 3, 1) := by decide +kernel
theorem dL_law_462 : decode cL_law 462 = .ok (.iconst 2, 1) := by decide +kernel
theorem dL_law_463 : decode cL_law 463 = .ok (.iadd, 1) := by decide +kernel
theorem dL_law_464 : decode cL_law 464 = .ok (.iaload, 1) := by decide +kernel
theorem dL_law_465 : decode cL_law 465 = .ok (.invokevirtual 53, 3) := by decide +kernel
theorem dL_law_468 : decode cL_law 468 = .ok (.aload_n 2, 1) := by decide +kernel
theorem dL_law_469 : decode cL_law 469 = .ok (.aload_n 0, 1) := by decide +kernel
theorem dL_law_470 : decode cL_law 470 = .ok (.iload_n 3, 1) := by decide +kernel
theorem dL_law_471 : decode cL_law 471 = .ok (.iconst 1, 1) := by decide +kernel
theorem dL_law_472 : decode cL_law 472 = .ok (.iadd, 1) := by decide +kernel
theorem dL_law_473 : decode cL_law 473 = .ok (.iaload, 1) := by decide +kernel
theorem dL_law_474 : decode cL_law 474 = .ok (.aload_n 0, 1) := by decide +kernel
theorem dL_law_475 : decode cL_law 475 = .ok (.iload_n 3, 1) := by decide +kernel
theorem dL_law_476 : decode cL_law 476 = .ok (.iconst 2, 1) := by decide +kernel
theorem dL_law_477 : decode cL_law 477 = .ok (.iadd, 1) := by decide +kernel
theorem dL_law_478 : decode cL_law 478 = .ok (.iaload, 1) := by decide +kernel
theorem dL_law_479 : decode cL_law 479 = .ok (.invokevirtual 56, 3) := by decide +kernel
theorem dL_law_482 : decode cL_law 482 = .ok (.if_icmp .eq 462, 3) := by decide +kernel
theorem dL_law_485 : decode cL_law 485 = .ok (.iconst 0, 1) := by decide +kernel
theorem dL_law_486 : decode cL_law 486 = .ok (.ireturn, 1) := by decide +kernel
theorem dL_law_487 : decode cL_law 487 = .ok (.aload_n 1, 1) := by decide +kernel
theorem dL_law_488 : decode cL_law 488 = .ok (.aload_n 0, 1) := by decide +kernel
theorem dL_law_489 : decode cL_law 489 = .ok (.iload_n 3, 1) := by decide +kernel
theorem dL_law_490 : decode cL_law 490 = .ok (.iconst 1, 1) := by decide +kernel
theorem dL_law_491 : decode cL_law 491 = .ok (.iadd, 1) := by decide +kernel
theorem dL_law_492 : decode cL_law 492 = .ok (.iaload, 1) := by decide +kernel
theorem dL_law_493 : decode cL_law 493 = .ok (.aload_n 0, 1) := by decide +kernel
theorem dL_law_494 : decode cL_law 494 = .ok (.iload_n 3, 1) := by decide +kernel
theorem dL_law_495 : decode cL_law 495 = .ok (.iconst 2, 1) := by decide +kernel
theorem dL_law_496 : decode cL_law 496 = .ok (.iadd, 1) := by decide +kernel
theorem dL_law_497 : decode cL_law 497 = .ok (.iaload, 1) := by decide +kernel
theorem dL_law_498 : decode cL_law 498 = .ok (.invokevirtual 57, 3) := by decide +kernel
theorem dL_law_501 : decode cL_law 501 = .ok (.aload_n 2, 1) := by decide +kernel
theorem dL_law_502 : decode cL_law 502 = .ok (.aload_n 0, 1) := by decide +kernel
theorem dL_law_503 : decode cL_law 503 = .ok (.iload_n 3, 1) := by decide +kernel
theorem dL_law_504 : decode cL_law 504 = .ok (.iconst 1, 1) := by decide +kernel
theorem dL_law_505 : decode cL_law 505 = .ok (.iadd, 1) := by decide +kernel
theorem dL_law_506 : decode cL_law 506 = .ok (.iaload, 1) := by decide +kernel
theorem dL_law_507 : decode cL_law 507 = .ok (.aload_n 0, 1) := by decide +kernel
theorem dL_law_508 : decode cL_law 508 = .ok (.iload_n 3, 1) := by decide +kernel
theorem dL_law_509 : decode cL_law 509 = .ok (.iconst 2, 1) := by decide +kernel
theorem dL_law_510 : decode cL_law 510 = .ok (.iadd, 1) := by decide +kernel
theorem dL_law_511 : decode cL_law 511 = .ok (.iaload, 1) := by decide +kernel
theorem dL_law_512 : decode cL_law 512 = .ok (.invokevirtual 60, 3) := by decide +kernel
theorem dL_law_515 : decode cL_law 515 = .ok (.if_icmp .eq 429, 3) := by decide +kernel
theorem dL_law_518 : decode cL_law 518 = .ok (.iconst 0, 1) := by decide +kernel
theorem dL_law_519 : decode cL_law 519 = .ok (.ireturn, 1) := by decide +kernel
theorem dL_law_520 : decode cL_law 520 = .ok (.aload_n 1, 1) := by decide +kernel
theorem dL_law_521 : decode cL_law 521 = .ok (.invokevirtual 61, 3) := by decide +kernel
theorem dL_law_524 : decode cL_law 524 = .ok (.aload_n 2, 1) := by decide +kernel
theorem dL_law_525 : decode cL_law 525 = .ok (.invokevirtual 64, 3) := by decide +kernel
theorem dL_law_528 : decode cL_law 528 = .ok (.if_icmp .eq 416, 3) := by decide +kernel
theorem dL_law_531 : decode cL_law 531 = .ok (.iconst 0, 1) := by decide +kernel
theorem dL_law_532 : decode cL_law 532 = .ok (.ireturn, 1) := by decide +kernel
theorem dL_law_533 : decode cL_law 533 = .ok (.aload_n 1, 1) := by decide +kernel
theorem dL_law_534 : decode cL_law 534 = .ok (.aload_n 0, 1) := by decide +kernel
theorem dL_law_535 : decode cL_law 535 = .ok (.iload_n 3, 1) := by decide +kernel
theorem dL_law_536 : decode cL_law 536 = .ok (.iconst 1, 1) := by decide +kernel
theorem dL_law_537 : decode cL_law 537 = .ok (.iadd, 1) := by decide +kernel
theorem dL_law_538 : decode cL_law 538 = .ok (.iaload, 1) := by decide +kernel
theorem dL_law_539 : decode cL_law 539 = .ok (.aload_n 0, 1) := by decide +kernel
theorem dL_law_540 : decode cL_law 540 = .ok (.iload_n 3, 1) := by decide +kernel
theorem dL_law_541 : decode cL_law 541 = .ok (.iconst 2, 1) := by decide +kernel
theorem dL_law_542 : decode cL_law 542 = .ok (.iadd, 1) := by decide +kernel
theorem dL_law_543 : decode cL_law 543 = .ok (.iaload, 1) := by decide +kernel
theorem dL_law_544 : decode cL_law 544 = .ok (.invokevirtual 65, 3) := by decide +kernel
theorem dL_law_547 : decode cL_law 547 = .ok (.aload_n 2, 1) := by decide +kernel
theorem dL_law_548 : decode cL_law 548 = .ok (.aload_n 0, 1) := by decide +kernel
theorem dL_law_549 : decode cL_law 549 = .ok (.iload_n 3, 1) := by decide +kernel
theorem dL_law_550 : decode cL_law 550 = .ok (.iconst 1, 1) := by decide +kernel
theorem dL_law_551 : decode cL_law 551 = .ok (.iadd, 1) := by decide +kernel
theorem dL_law_552 : decode cL_law 552 = .ok (.iaload, 1) := by decide +kernel
theorem dL_law_553 : decode cL_law 553 = .ok (.aload_n 0, 1) := by decide +kernel
theorem dL_law_554 : decode cL_law 554 = .ok (.iload_n 3, 1) := by decide +kernel
theorem dL_law_555 : decode cL_law 555 = .ok (.iconst 2, 1) := by decide +kernel
theorem dL_law_556 : decode cL_law 556 = .ok (.iadd, 1) := by decide +kernel
theorem dL_law_557 : decode cL_law 557 = .ok (.iaload, 1) := by decide +kernel
theorem dL_law_558 : decode cL_law 558 = .ok (.invokevirtual 68, 3) := by decide +kernel
theorem dL_law_561 : decode cL_law 561 = .ok (.if_icmp .eq 383, 3) := by decide +kernel
theorem dL_law_564 : decode cL_law 564 = .ok (.iconst 0, 1) := by decide +kernel
theorem dL_law_565 : decode cL_law 565 = .ok (.ireturn, 1) := by decide +kernel
theorem dL_law_566 : decode cL_law 566 = .ok (.aload_n 1, 1) := by decide +kernel
theorem dL_law_567 : decode cL_law 567 = .ok (.aload_n 0, 1) := by decide +kernel
theorem dL_law_568 : decode cL_law 568 = .ok (.iload_n 3, 1) := by decide +kernel
theorem dL_law_569 : decode cL_law 569 = .ok (.iconst 1, 1) := by decide +kernel
theorem dL_law_570 : decode cL_law 570 = .ok (.iadd, 1) := by decide +kernel
theorem dL_law_571 : decode cL_law 571 = .ok (.iaload, 1) := by decide +kernel
theorem dL_law_572 : decode cL_law 572 = .ok (.invokevirtual 69, 3) := by decide +kernel
theorem dL_law_575 : decode cL_law 575 = .ok (.aload_n 2, 1) := by decide +kernel
theorem dL_law_576 : decode cL_law 576 = .ok (.aload_n 0, 1) := by decide +kernel
theorem dL_law_577 : decode cL_law 577 = .ok (.iload_n 3, 1) := by decide +kernel
theorem dL_law_578 : decode cL_law 578 = .ok (.iconst 1, 1) := by decide +kernel
theorem dL_law_579 : decode cL_law 579 = .ok (.iadd, 1) := by decide +kernel
theorem dL_law_580 : decode cL_law 580 = .ok (.iaload, 1) := by decide +kernel
theorem dL_law_581 : decode cL_law 581 = .ok (.invokevirtual 72, 3) := by decide +kernel
theorem dL_law_584 : decode cL_law 584 = .ok (.if_icmp .eq 360, 3) := by decide +kernel
theorem dL_law_587 : decode cL_law 587 = .ok (.iconst 0, 1) := by decide +kernel
theorem dL_law_588 : decode cL_law 588 = .ok (.ireturn, 1) := by decide +kernel
theorem dL_law_589 : decode cL_law 589 = .ok (.aload_n 1, 1) := by decide +kernel
theorem dL_law_590 : decode cL_law 590 = .ok (.invokevirtual 73, 3) := by decide +kernel
theorem dL_law_593 : decode cL_law 593 = .ok (.aload_n 2, 1) := by decide +kernel
theorem dL_law_594 : decode cL_law 594 = .ok (.invokevirtual 76, 3) := by decide +kernel
theorem dL_law_597 : decode cL_law 597 = .ok (.if_icmp .eq 347, 3) := by decide +kernel
theorem dL_law_600 : decode cL_law 600 = .ok (.iconst 0, 1) := by decide +kernel
theorem dL_law_601 : decode cL_law 601 = .ok (.ireturn, 1) := by decide +kernel
theorem dL_law_602 : decode cL_law 602 = .ok (.aload_n 1, 1) := by decide +kernel
theorem dL_law_603 : decode cL_law 603 = .ok (.aload_n 0, 1) := by decide +kernel
theorem dL_law_604 : decode cL_law 604 = .ok (.iload_n 3, 1) := by decide +kernel
theorem dL_law_605 : decode cL_law 605 = .ok (.iconst 1, 1) := by decide +kernel
theorem dL_law_606 : decode cL_law 606 = .ok (.iadd, 1) := by decide +kernel
theorem dL_law_607 : decode cL_law 607 = .ok (.iaload, 1) := by decide +kernel
theorem dL_law_608 : decode cL_law 608 = .ok (.invokevirtual 77, 3) := by decide +kernel
theorem dL_law_611 : decode cL_law 611 = .ok (.aload_n 2, 1) := by decide +kernel
theorem dL_law_612 : decode cL_law 612 = .ok (.aload_n 0, 1) := by decide +kernel
theorem dL_law_613 : decode cL_law 613 = .ok (.iload_n 3, 1) := by decide +kernel
theorem dL_law_614 : decode cL_law 614 = .ok (.iconst 1, 1) := by decide +kernel
theorem dL_law_615 : decode cL_law 615 = .ok (.iadd, 1) := by decide +kernel
theorem dL_law_616 : decode cL_law 616 = .ok (.iaload, 1) := by decide +kernel
theorem dL_law_617 : decode cL_law 617 = .ok (.invokevirtual 80, 3) := by decide +kernel
theorem dL_law_620 : decode cL_law 620 = .ok (.if_icmp .eq 324, 3) := by decide +kernel
theorem dL_law_623 : decode cL_law 623 = .ok (.iconst 0, 1) := by decide +kernel
theorem dL_law_624 : decode cL_law 624 = .ok (.ireturn, 1) := by decide +kernel
theorem dL_law_625 : decode cL_law 625 = .ok (.aload_n 1, 1) := by decide +kernel
theorem dL_law_626 : decode cL_law 626 = .ok (.aload_n 0, 1) := by decide +kernel
theorem dL_law_627 : decode cL_law 627 = .ok (.iload_n 3, 1) := by decide +kernel
theorem dL_law_628 : decode cL_law 628 = .ok (.iconst 1, 1) := by decide +kernel
theorem dL_law_629 : decode cL_law 629 = .ok (.iadd, 1) := by decide +kernel
theorem dL_law_630 : decode cL_law 630 = .ok (.iaload, 1) := by decide +kernel
theorem dL_law_631 : decode cL_law 631 = .ok (.invokevirtual 81, 3) := by decide +kernel
theorem dL_law_634 : decode cL_law 634 = .ok (.aload_n 2, 1) := by decide +kernel
theorem dL_law_635 : decode cL_law 635 = .ok (.aload_n 0, 1) := by decide +kernel
theorem dL_law_636 : decode cL_law 636 = .ok (.iload_n 3, 1) := by decide +kernel
theorem dL_law_637 : decode cL_law 637 = .ok (.iconst 1, 1) := by decide +kernel
theorem dL_law_638 : decode cL_law 638 = .ok (.iadd, 1) := by decide +kernel
theorem dL_law_639 : decode cL_law 639 = .ok (.iaload, 1) := by decide +kernel
theorem dL_law_640 : decode cL_law 640 = .ok (.invokevirtual 84, 3) := by decide +kernel
theorem dL_law_643 : decode cL_law 643 = .ok (.if_icmp .eq 301, 3) := by decide +kernel
theorem dL_law_646 : decode cL_law 646 = .ok (.iconst 0, 1) := by decide +kernel
theorem dL_law_647 : decode cL_law 647 = .ok (.ireturn, 1) := by decide +kernel
theorem dL_law_648 : decode cL_law 648 = .ok (.aload_n 1, 1) := by decide +kernel
theorem dL_law_649 : decode cL_law 649 = .ok (.invokevirtual 85, 3) := by decide +kernel
theorem dL_law_652 : decode cL_law 652 = .ok (.aload_n 2, 1) := by decide +kernel
theorem dL_law_653 : decode cL_law 653 = .ok (.invokevirtual 88, 3) := by decide +kernel
theorem dL_law_656 : decode cL_law 656 = .ok (.if_icmp .eq 288, 3) := by decide +kernel
theorem dL_law_659 : decode cL_law 659 = .ok (.iconst 0, 1) := by decide +kernel
theorem dL_law_660 : decode cL_law 660 = .ok (.ireturn, 1) := by decide +kernel
theorem dL_law_661 : decode cL_law 661 = .ok (.aload_n 1, 1) := by decide +kernel
theorem dL_law_662 : decode cL_law 662 = .ok (.aload_n 0, 1) := by decide +kernel
theorem dL_law_663 : decode cL_law 663 = .ok (.iload_n 3, 1) := by decide +kernel
theorem dL_law_664 : decode cL_law 664 = .ok (.iconst 1, 1) := by decide +kernel
theorem dL_law_665 : decode cL_law 665 = .ok (.iadd, 1) := by decide +kernel
theorem dL_law_666 : decode cL_law 666 = .ok (.iaload, 1) := by decide +kernel
theorem dL_law_667 : decode cL_law 667 = .ok (.invokevirtual 89, 3) := by decide +kernel
theorem dL_law_670 : decode cL_law 670 = .ok (.aload_n 2, 1) := by decide +kernel
theorem dL_law_671 : decode cL_law 671 = .ok (.aload_n 0, 1) := by decide +kernel
theorem dL_law_672 : decode cL_law 672 = .ok (.iload_n 3, 1) := by decide +kernel
theorem dL_law_673 : decode cL_law 673 = .ok (.iconst 1, 1) := by decide +kernel
theorem dL_law_674 : decode cL_law 674 = .ok (.iadd, 1) := by decide +kernel
theorem dL_law_675 : decode cL_law 675 = .ok (.iaload, 1) := by decide +kernel
theorem dL_law_676 : decode cL_law 676 = .ok (.invokevirtual 92, 3) := by decide +kernel
theorem dL_law_679 : decode cL_law 679 = .ok (.if_icmp .eq 265, 3) := by decide +kernel
theorem dL_law_682 : decode cL_law 682 = .ok (.iconst 0, 1) := by decide +kernel
theorem dL_law_683 : decode cL_law 683 = .ok (.ireturn, 1) := by decide +kernel
theorem dL_law_684 : decode cL_law 684 = .ok (.aload_n 1, 1) := by decide +kernel
theorem dL_law_685 : decode cL_law 685 = .ok (.aload_n 0, 1) := by decide +kernel
theorem dL_law_686 : decode cL_law 686 = .ok (.iload_n 3, 1) := by decide +kernel
theorem dL_law_687 : decode cL_law 687 = .ok (.iconst 1, 1) := by decide +kernel
theorem dL_law_688 : decode cL_law 688 = .ok (.iadd, 1) := by decide +kernel
theorem dL_law_689 : decode cL_law 689 = .ok (.iaload, 1) := by decide +kernel
theorem dL_law_690 : decode cL_law 690 = .ok (.aload_n 0, 1) := by decide +kernel
theorem dL_law_691 : decode cL_law 691 = .ok (.iload_n 3, 1) := by decide +kernel
theorem dL_law_692 : decode cL_law 692 = .ok (.iconst 2, 1) := by decide +kernel
theorem dL_law_693 : decode cL_law 693 = .ok (.iadd, 1) := by decide +kernel
theorem dL_law_694 : decode cL_law 694 = .ok (.iaload, 1) := by decide +kernel
theorem dL_law_695 : decode cL_law 695 = .ok (.invokevirtual 93, 3) := by decide +kernel
theorem dL_law_698 : decode cL_law 698 = .ok (.aload_n 2, 1) := by decide +kernel
theorem dL_law_699 : decode cL_law 699 = .ok (.aload_n 0, 1) := by decide +kernel
theorem dL_law_700 : decode cL_law 700 = .ok (.iload_n 3, 1) := by decide +kernel
theorem dL_law_701 : decode cL_law 701 = .ok (.iconst 1, 1) := by decide +kernel
theorem dL_law_702 : decode cL_law 702 = .ok (.iadd, 1) := by decide +kernel
theorem dL_law_703 : decode cL_law 703 = .ok (.iaload, 1) := by decide +kernel
theorem dL_law_704 : decode cL_law 704 = .ok (.aload_n 0, 1) := by decide +kernel
theorem dL_law_705 : decode cL_law 705 = .ok (.iload_n 3, 1) := by decide +kernel
theorem dL_law_706 : decode cL_law 706 = .ok (.iconst 2, 1) := by decide +kernel
theorem dL_law_707 : decode cL_law 707 = .ok (.iadd, 1) := by decide +kernel
theorem dL_law_708 : decode cL_law 708 = .ok (.iaload, 1) := by decide +kernel
theorem dL_law_709 : decode cL_law 709 = .ok (.invokevirtual 96, 3) := by decide +kernel
theorem dL_law_712 : decode cL_law 712 = .ok (.if_icmp .eq 232, 3) := by decide +kernel
theorem dL_law_715 : decode cL_law 715 = .ok (.iconst 0, 1) := by decide +kernel
theorem dL_law_716 : decode cL_law 716 = .ok (.ireturn, 1) := by decide +kernel
theorem dL_law_717 : decode cL_law 717 = .ok (.aload_n 1, 1) := by decide +kernel
theorem dL_law_718 : decode cL_law 718 = .ok (.aload_n 0, 1) := by decide +kernel
theorem dL_law_719 : decode cL_law 719 = .ok (.iload_n 3, 1) := by decide +kernel
theorem dL_law_720 : decode cL_law 720 = .ok (.iconst 1, 1) := by decide +kernel
theorem dL_law_721 : decode cL_law 721 = .ok (.iadd, 1) := by decide +kernel
theorem dL_law_722 : decode cL_law 722 = .ok (.iaload, 1) := by decide +kernel
theorem dL_law_723 : decode cL_law 723 = .ok (.invokevirtual 97, 3) := by decide +kernel
theorem dL_law_726 : decode cL_law 726 = .ok (.aload_n 2, 1) := by decide +kernel
theorem dL_law_727 : decode cL_law 727 = .ok (.aload_n 0, 1) := by decide +kernel
theorem dL_law_728 : decode cL_law 728 = .ok (.iload_n 3, 1) := by decide +kernel
theorem dL_law_729 : decode cL_law 729 = .ok (.iconst 1, 1) := by decide +kernel
theorem dL_law_730 : decode cL_law 730 = .ok (.iadd, 1) := by decide +kernel
theorem dL_law_731 : decode cL_law 731 = .ok (.iaload, 1) := by decide +kernel
theorem dL_law_732 : decode cL_law 732 = .ok (.invokevirtual 100, 3) := by decide +kernel
theorem dL_law_735 : decode cL_law 735 = .ok (.if_icmp .eq 209, 3) := by decide +kernel
theorem dL_law_738 : decode cL_law 738 = .ok (.iconst 0, 1) := by decide +kernel
theorem dL_law_739 : decode cL_law 739 = .ok (.ireturn, 1) := by decide +kernel
theorem dL_law_740 : decode cL_law 740 = .ok (.aload_n 1, 1) := by decide +kernel
theorem dL_law_741 : decode cL_law 741 = .ok (.invokevirtual 101, 3) := by decide +kernel
theorem dL_law_744 : decode cL_law 744 = .ok (.aload_n 2, 1) := by decide +kernel
theorem dL_law_745 : decode cL_law 745 = .ok (.invokevirtual 104, 3) := by decide +kernel
theorem dL_law_748 : decode cL_law 748 = .ok (.if_icmp .eq 196, 3) := by decide +kernel
theorem dL_law_751 : decode cL_law 751 = .ok (.iconst 0, 1) := by decide +kernel
theorem dL_law_752 : decode cL_law 752 = .ok (.ireturn, 1) := by decide +kernel
theorem dL_law_753 : decode cL_law 753 = .ok (.aload_n 1, 1) := by decide +kernel
theorem dL_law_754 : decode cL_law 754 = .ok (.aload_n 0, 1) := by decide +kernel
theorem dL_law_755 : decode cL_law 755 = .ok (.iload_n 3, 1) := by decide +kernel
theorem dL_law_756 : decode cL_law 756 = .ok (.iconst 1, 1) := by decide +kernel
theorem dL_law_757 : decode cL_law 757 = .ok (.iadd, 1) := by decide +kernel
theorem dL_law_758 : decode cL_law 758 = .ok (.iaload, 1) := by decide +kernel
theorem dL_law_759 : decode cL_law 759 = .ok (.aload_n 0, 1) := by decide +kernel
theorem dL_law_760 : decode cL_law 760 = .ok (.iload_n 3, 1) := by decide +kernel
theorem dL_law_761 : decode cL_law 761 = .ok (.iconst 2, 1) := by decide +kernel
theorem dL_law_762 : decode cL_law 762 = .ok (.iadd, 1) := by decide +kernel
theorem dL_law_763 : decode cL_law 763 = .ok (.iaload, 1) := by decide +kernel
theorem dL_law_764 : decode cL_law 764 = .ok (.aload_n 0, 1) := by decide +kernel
theorem dL_law_765 : decode cL_law 765 = .ok (.iload_n 3, 1) := by decide +kernel
theorem dL_law_766 : decode cL_law 766 = .ok (.iconst 3, 1) := by decide +kernel
theorem dL_law_767 : decode cL_law 767 = .ok (.iadd, 1) := by decide +kernel
theorem dL_law_768 : decode cL_law 768 = .ok (.iaload, 1) := by decide +kernel
theorem dL_law_769 : decode cL_law 769 = .ok (.invokevirtual 105, 3) := by decide +kernel
theorem dL_law_772 : decode cL_law 772 = .ok (.aload_n 2, 1) := by decide +kernel
theorem dL_law_773 : decode cL_law 773 = .ok (.aload_n 0, 1) := by decide +kernel
theorem dL_law_774 : decode cL_law 774 = .ok (.iload_n 3, 1) := by decide +kernel
theorem dL_law_775 : decode cL_law 775 = .ok (.iconst 1, 1) := by decide +kernel
theorem dL_law_776 : decode cL_law 776 = .ok (.iadd, 1) := by decide +kernel
theorem dL_law_777 : decode cL_law 777 = .ok (.iaload, 1) := by decide +kernel
theorem dL_law_778 : decode cL_law 778 = .ok (.aload_n 0, 1) := by decide +kernel
theorem dL_law_779 : decode cL_law 779 = .ok (.iload_n 3, 1) := by decide +kernel
theorem dL_law_780 : decode cL_law 780 = .ok (.iconst 2, 1) := by decide +kernel
theorem dL_law_781 : decode cL_law 781 = .ok (.iadd, 1) := by decide +kernel
theorem dL_law_782 : decode cL_law 782 = .ok (.iaload, 1) := by decide +kernel
theorem dL_law_783 : decode cL_law 783 = .ok (.aload_n 0, 1) := by decide +kernel
theorem dL_law_784 : decode cL_law 784 = .ok (.iload_n 3, 1) := by decide +kernel
theorem dL_law_785 : decode cL_law 785 = .ok (.iconst 3, 1) := by decide +kernel
theorem dL_law_786 : decode cL_law 786 = .ok (.iadd, 1) := by decide +kernel
theorem dL_law_787 : decode cL_law 787 = .ok (.iaload, 1) := by decide +kernel
theorem dL_law_788 : decode cL_law 788 = .ok (.invokevirtual 108, 3) := by decide +kernel
theorem dL_law_791 : decode cL_law 791 = .ok (.if_icmp .eq 153, 3) := by decide +kernel
theorem dL_law_794 : decode cL_law 794 = .ok (.iconst 0, 1) := by decide +kernel
theorem dL_law_795 : decode cL_law 795 = .ok (.ireturn, 1) := by decide +kernel
theorem dL_law_796 : decode cL_law 796 = .ok (.aload_n 1, 1) := by decide +kernel
theorem dL_law_797 : decode cL_law 797 = .ok (.aload_n 0, 1) := by decide +kernel
theorem dL_law_798 : decode cL_law 798 = .ok (.iload_n 3, 1) := by decide +kernel
theorem dL_law_799 : decode cL_law 799 = .ok (.iconst 1, 1) := by decide +kernel
theorem dL_law_800 : decode cL_law 800 = .ok (.iadd, 1) := by decide +kernel
theorem dL_law_801 : decode cL_law 801 = .ok (.iaload, 1) := by decide +kernel
theorem dL_law_802 : decode cL_law 802 = .ok (.invokevirtual 109, 3) := by decide +kernel
theorem dL_law_805 : decode cL_law 805 = .ok (.aload_n 2, 1) := by decide +kernel
theorem dL_law_806 : decode cL_law 806 = .ok (.aload_n 0, 1) := by decide +kernel
theorem dL_law_807 : decode cL_law 807 = .ok (.iload_n 3, 1) := by decide +kernel
theorem dL_law_808 : decode cL_law 808 = .ok (.iconst 1, 1) := by decide +kernel
theorem dL_law_809 : decode cL_law 809 = .ok (.iadd, 1) := by decide +kernel
theorem dL_law_810 : decode cL_law 810 = .ok (.iaload, 1) := by decide +kernel
theorem dL_law_811 : decode cL_law 811 = .ok (.invokevirtual 112, 3) := by decide +kernel
theorem dL_law_814 : decode cL_law 814 = .ok (.if_icmp .eq 130, 3) := by decide +kernel
theorem dL_law_817 : decode cL_law 817 = .ok (.iconst 0, 1) := by decide +kernel
theorem dL_law_818 : decode cL_law 818 = .ok (.ireturn, 1) := by decide +kernel
theorem dL_law_819 : decode cL_law 819 = .ok (.aload_n 1, 1) := by decide +kernel
theorem dL_law_820 : decode cL_law 820 = .ok (.aload_n 0, 1) := by decide +kernel
theorem dL_law_821 : decode cL_law 821 = .ok (.iload_n 3, 1) := by decide +kernel
theorem dL_law_822 : decode cL_law 822 = .ok (.iconst 1, 1) := by decide +kernel
theorem dL_law_823 : decode cL_law 823 = .ok (.iadd, 1) := by decide +kernel
theorem dL_law_824 : decode cL_law 824 = .ok (.iaload, 1) := by decide +kernel
theorem dL_law_825 : decode cL_law 825 = .ok (.aload_n 0, 1) := by decide +kernel
theorem dL_law_826 : decode cL_law 826 = .ok (.iload_n 3, 1) := by decide +kernel
theorem dL_law_827 : decode cL_law 827 = .ok (.iconst 2, 1) := by decide +kernel
theorem dL_law_828 : decode cL_law 828 = .ok (.iadd, 1) := by decide +kernel
theorem dL_law_829 : decode cL_law 829 = .ok (.iaload, 1) := by decide +kernel
theorem dL_law_830 : decode cL_law 830 = .ok (.invokevirtual 113, 3) := by decide +kernel
theorem dL_law_833 : decode cL_law 833 = .ok (.aload_n 2, 1) := by decide +kernel
theorem dL_law_834 : decode cL_law 834 = .ok (.aload_n 0, 1) := by decide +kernel
theorem dL_law_835 : decode cL_law 835 = .ok (.iload_n 3, 1) := by decide +kernel
theorem dL_law_836 : decode cL_law 836 = .ok (.iconst 1, 1) := by decide +kernel
theorem dL_law_837 : decode cL_law 837 = .ok (.iadd, 1) := by decide +kernel
theorem dL_law_838 : decode cL_law 838 = .ok (.iaload, 1) := by decide +kernel
theorem dL_law_839 : decode cL_law 839 = .ok (.aload_n 0, 1) := by decide +kernel
theorem dL_law_840 : decode cL_law 840 = .ok (.iload_n 3, 1) := by decide +kernel
theorem dL_law_841 : decode cL_law 841 = .ok (.iconst 2, 1) := by decide +kernel
theorem dL_law_842 : decode cL_law 842 = .ok (.iadd, 1) := by decide +kernel
theorem dL_law_843 : decode cL_law 843 = .ok (.iaload, 1) := by decide +kernel
theorem dL_law_844 : decode cL_law 844 = .ok (.invokevirtual 116, 3) := by decide +kernel
theorem dL_law_847 : decode cL_law 847 = .ok (.if_icmp .eq 97, 3) := by decide +kernel
theorem dL_law_850 : decode cL_law 850 = .ok (.iconst 0, 1) := by decide +kernel
theorem dL_law_851 : decode cL_law 851 = .ok (.ireturn, 1) := by decide +kernel
theorem dL_law_852 : decode cL_law 852 = .ok (.aload_n 1, 1) := by decide +kernel
theorem dL_law_853 : decode cL_law 853 = .ok (.aload_n 0, 1) := by decide +kernel
theorem dL_law_854 : decode cL_law 854 = .ok (.iload_n 3, 1) := by decide +kernel
theorem dL_law_855 : decode cL_law 855 = .ok (.iconst 1, 1) := by decide +kernel
theorem dL_law_856 : decode cL_law 856 = .ok (.iadd, 1) := by decide +kernel
theorem dL_law_857 : decode cL_law 857 = .ok (.iaload, 1) := by decide +kernel
theorem dL_law_858 : decode cL_law 858 = .ok (.aload_n 0, 1) := by decide +kernel
theorem dL_law_859 : decode cL_law 859 = .ok (.iload_n 3, 1) := by decide +kernel
theorem dL_law_860 : decode cL_law 860 = .ok (.iconst 2, 1) := by decide +kernel
theorem dL_law_861 : decode cL_law 861 = .ok (.iadd, 1) := by decide +kernel
theorem dL_law_862 : decode cL_law 862 = .ok (.iaload, 1) := by decide +kernel
theorem dL_law_863 : decode cL_law 863 = .ok (.invokevirtual 117, 3) := by decide +kernel
theorem dL_law_866 : decode cL_law 866 = .ok (.aload_n 2, 1) := by decide +kernel
theorem dL_law_867 : decode cL_law 867 = .ok (.aload_n 0, 1) := by decide +kernel
theorem dL_law_868 : decode cL_law 868 = .ok (.iload_n 3, 1) := by decide +kernel
theorem dL_law_869 : decode cL_law 869 = .ok (.iconst 1, 1) := by decide +kernel
theorem dL_law_870 : decode cL_law 870 = .ok (.iadd, 1) := by decide +kernel
theorem dL_law_871 : decode cL_law 871 = .ok (.iaload, 1) := by decide +kernel
theorem dL_law_872 : decode cL_law 872 = .ok (.aload_n 0, 1) := by decide +kernel
theorem dL_law_873 : decode cL_law 873 = .ok (.iload_n 3, 1) := by decide +kernel
theorem dL_law_874 : decode cL_law 874 = .ok (.iconst 2, 1) := by decide +kernel
theorem dL_law_875 : decode cL_law 875 = .ok (.iadd, 1) := by decide +kernel
theorem dL_law_876 : decode cL_law 876 = .ok (.iaload, 1) := by decide +kernel
theorem dL_law_877 : decode cL_law 877 = .ok (.invokevirtual 120, 3) := by decide +kernel
theorem dL_law_880 : decode cL_law 880 = .ok (.if_icmp .eq 64, 3) := by decide +kernel
theorem dL_law_883 : decode cL_law 883 = .ok (.iconst 0, 1) := by decide +kernel
theorem dL_law_884 : decode cL_law 884 = .ok (.ireturn, 1) := by decide +kernel
theorem dL_law_885 : decode cL_law 885 = .ok (.aload_n 1, 1) := by decide +kernel
theorem dL_law_886 : decode cL_law 886 = .ok (.aload_n 0, 1) := by decide +kernel
theorem dL_law_887 : decode cL_law 887 = .ok (.iload_n 3, 1) := by decide +kernel
theorem dL_law_888 : decode cL_law 888 = .ok (.iconst 1, 1) := by decide +kernel
theorem dL_law_889 : decode cL_law 889 = .ok (.iadd, 1) := by decide +kernel
theorem dL_law_890 : decode cL_law 890 = .ok (.iaload, 1) := by decide +kernel
theorem dL_law_891 : decode cL_law 891 = .ok (.invokevirtual 121, 3) := by decide +kernel
theorem dL_law_894 : decode cL_law 894 = .ok (.aload_n 2, 1) := by decide +kernel
theorem dL_law_895 : decode cL_law 895 = .ok (.aload_n 0, 1) := by decide +kernel
theorem dL_law_896 : decode cL_law 896 = .ok (.iload_n 3, 1) := by decide +kernel
theorem dL_law_897 : decode cL_law 897 = .ok (.iconst 1, 1) := by decide +kernel
theorem dL_law_898 : decode cL_law 898 = .ok (.iadd, 1) := by decide +kernel
theorem dL_law_899 : decode cL_law 899 = .ok (.iaload, 1) := by decide +kernel
theorem dL_law_900 : decode cL_law 900 = .ok (.invokevirtual 124, 3) := by decide +kernel
theorem dL_law_903 : decode cL_law 903 = .ok (.if_icmp .eq 41, 3) := by decide +kernel
theorem dL_law_906 : decode cL_law 906 = .ok (.iconst 0, 1) := by decide +kernel
theorem dL_law_907 : decode cL_law 907 = .ok (.ireturn, 1) := by decide +kernel
theorem dL_law_908 : decode cL_law 908 = .ok (.aload_n 1, 1) := by decide +kernel
theorem dL_law_909 : decode cL_law 909 = .ok (.aload_n 0, 1) := by decide +kernel
theorem dL_law_910 : decode cL_law 910 = .ok (.iload_n 3, 1) := by decide +kernel
theorem dL_law_911 : decode cL_law 911 = .ok (.iconst 1, 1) := by decide +kernel
theorem dL_law_912 : decode cL_law 912 = .ok (.iadd, 1) := by decide +kernel
theorem dL_law_913 : decode cL_law 913 = .ok (.iaload, 1) := by decide +kernel
theorem dL_law_914 : decode cL_law 914 = .ok (.invokevirtual 125, 3) := by decide +kernel
theorem dL_law_917 : decode cL_law 917 = .ok (.aload_n 2, 1) := by decide +kernel
theorem dL_law_918 : decode cL_law 918 = .ok (.aload_n 0, 1) := by decide +kernel
theorem dL_law_919 : decode cL_law 919 = .ok (.iload_n 3, 1) := by decide +kernel
theorem dL_law_920 : decode cL_law 920 = .ok (.iconst 1, 1) := by decide +kernel
theorem dL_law_921 : decode cL_law 921 = .ok (.iadd, 1) := by decide +kernel
theorem dL_law_922 : decode cL_law 922 = .ok (.iaload, 1) := by decide +kernel
theorem dL_law_923 : decode cL_law 923 = .ok (.invokevirtual 128, 3) := by decide +kernel
theorem dL_law_926 : decode cL_law 926 = .ok (.if_icmp .eq 18, 3) := by decide +kernel
theorem dL_law_929 : decode cL_law 929 = .ok (.iconst 0, 1) := by decide +kernel
theorem dL_law_930 : decode cL_law 930 = .ok (.ireturn, 1) := by decide +kernel
theorem dL_law_931 : decode cL_law 931 = .ok (.aload_n 1, 1) := by decide +kernel
theorem dL_law_932 : decode cL_law 932 = .ok (.invokevirtual 129, 3) := by decide +kernel
theorem dL_law_935 : decode cL_law 935 = .ok (.aload_n 2, 1) := by decide +kernel
theorem dL_law_936 : decode cL_law 936 = .ok (.invokevirtual 132, 3) := by decide +kernel
theorem dL_law_939 : decode cL_law 939 = .ok (.if_icmp .eq 5, 3) := by decide +kernel
theorem dL_law_942 : decode cL_law 942 = .ok (.iconst 0, 1) := by decide +kernel
theorem dL_law_943 : decode cL_law 943 = .ok (.ireturn, 1) := by decide +kernel
theorem dL_law_944 : decode cL_law 944 = .ok (.iinc 3 6, 3) := by decide +kernel
theorem dL_law_947 : decode cL_law 947 = .ok (.goto (-929), 3) := by decide +kernel
theorem dL_law_950 : decode cL_law 950 = .ok (.iconst 1, 1) := by decide +kernel
theorem dL_law_951 : decode cL_law 951 = .ok (.ireturn, 1) := by decide +kernel
end
section
/-! ===== a plain memory: cells by number; ints by cell and place; references between cells fixed ===== -/
abbrev MT : Type := Nat → Nat → Int32
/-- of each cell its kind (a class below 20, 20 int[], 21 byte[], 22 boolean[], 23 int[][], 24 Panel[]), its length, the cells that it points to -/
abbrev ZT : Type := (Nat → Nat) × (Nat → Nat) × (Nat → Nat → Nat)
abbrev zk (Z : ZT) : Nat → Nat := Z.1
abbrev zl (Z : ZT) : Nat → Nat := Z.2.1
abbrev zr (Z : ZT) : Nat → Nat → Nat := Z.2.2
/-- the machine's side: where classes and fields lie, how many own cells, how many given tables (from number 1000 on), addresses, classes of arrays, the first own address -/
abbrev GT : Type := va_G × Nat × Nat × (Nat → Nat) × (Nat → ClassId) × Nat
abbrev gD (G : GT) : va_G := G.1
abbrev gn (G : GT) : Nat := G.2.1
abbrev gt (G : GT) : Nat := G.2.2.1
abbrev ga (G : GT) : Nat → Nat := G.2.2.2.1
abbrev gc (G : GT) : Nat → ClassId := G.2.2.2.2.1
abbrev gb (G : GT) : Nat := G.2.2.2.2.2
abbrev gA (G : GT) : Nat → Prop := fun q => gb G ≤ q
/-- the type of a class's field -/
def fty (c : Nat) : Nat → FieldType := match c with
  | 0 => tyX0 | 1 => tyX1 | 2 => tyX2 | 3 => tyX3 | 4 => tyX4 | 5 => tyX5 | 6 => tyX6 | 7 => tyX7 | 8 => tyX8 | _ => tyX9
def isRefTy : FieldType → Bool
  | .array _ => true
  | .object _ => true
  | _ => false
/-- 0: an int or boolean, 1: a reference that stays, 2: a reference that changes (the two plans): the cell's number stands among the ints -/
def rk (c j : Nat) : Nat := if isRefTy (fty c j) then (if c = 8 ∧ (j = 11 ∨ j = 12) then 2 else 1) else 0
def nfl (c : Nat) : Nat := match vwCl[c]? with
  | some q => q.2.2
  | none => 0
def fv (G : GT) (Z : ZT) (μ : MT) (k j : Nat) : Value :=
  if rk (zk Z k) j = 0 then .int (μ k j) else if rk (zk Z k) j = 1 then .ref (ga G (zr Z k j)) else .ref (ga G (μ k j).toNatClampNeg)
def ce (G : GT) (Z : ZT) (μ : MT) (k : Nat) : va_E :=
  if zk Z k < 20 then .inr (zk Z k, (List.range (nfl (zk Z k))).map (fv G Z μ k))
  else if zk Z k < 23 then .inl (gc G (zk Z k), zl Z k, .inl (μ k))
  else .inl (gc G (zk Z k), zl Z k, .inr (.inr (.inr (.inr (fun j => some (ga G (zr Z k j)))))))
def wd (G : GT) (Z : ZT) (μ : MT) : va_W := (List.range (gn G)).map (fun k => (ga G k, ce G Z μ k))
abbrev ats (G : GT) : List (ClassId × FieldType) := [(gc G 20, .int), (gc G 21, .byte), (gc G 22, .boolean), (gc G 23, .array .int), (gc G 24, .object "SeamPull$Panel")]
def u2 (μ : MT) (k j : Nat) (v : Int32) : MT := fun k' => if k' = k then upd (μ k) j v else μ k'
theorem u2_s {μ : MT} {k j : Nat} {v : Int32} : u2 μ k j v k = upd (μ k) j v := by simp [u2]
theorem u2_n {μ : MT} {k k' j : Nat} {v : Int32} (h : k' ≠ k) : u2 μ k j v k' = μ k' := by simp [u2, h]
/-- a whole row anew -/
def u1 (μ : MT) (k : Nat) (f : Nat → Int32) : MT := fun k' => if k' = k then f else μ k'
theorem u1_s {μ : MT} {k : Nat} {f : Nat → Int32} : u1 μ k f k = f := by simp [u1]
theorem u1_n {μ : MT} {k k' : Nat} {f : Nat → Int32} (h : k' ≠ k) : u1 μ k f k' = μ k' := by simp [u1, h]
theorem wd_get {G : GT} {Z : ZT} {μ : MT} {k : Nat} (h : k < gn G) : (wd G Z μ)[k]? = some (ga G k, ce G Z μ k) := by
  unfold wd
  rw [List.getElem?_map, List.getElem?_range h]
  rfl
theorem ce_row {G : GT} {Z : ZT} {μ ν : MT} {k : Nat} (h : ν k = μ k) : ce G Z ν k = ce G Z μ k := by
  have hf : fv G Z ν k = fv G Z μ k := by
    funext j
    unfold fv
    rw [h]
  unfold ce
  rw [hf, h]
theorem wd_set {G : GT} {Z : ZT} {μ ν : MT} {k : Nat} {e : va_E} (hk : k < gn G) (he : ce G Z ν k = e) (ho : ∀ q, q ≠ k → ν q = μ q) : (wd G Z μ).set k (ga G k, e) = wd G Z ν := by
  subst he
  apply List.ext_getElem?
  intro i
  rw [List.getElem?_set]
  by_cases hi : k = i
  · subst hi
    have hl : k < (wd G Z μ).length := by simp [wd, hk]
    rw [if_pos rfl, if_pos hl, wd_get hk]
  · rw [if_neg hi]
    by_cases hg : i < gn G
    · rw [wd_get hg, wd_get hg, ce_row (ho i (fun q => hi q.symm))]
    · have hn : ∀ ξ : MT, (wd G Z ξ)[i]? = none := fun ξ => List.getElem?_eq_none (by simp [wd]; omega)
      rw [hn, hn]
/-- an own cell of a kind -/
def Ob (G : GT) (Z : ZT) (k c : Nat) : Prop := zk Z k = c ∧ k < gn G
/-- an array of ints that can be read: an own one or a given table -/
def Oa (G : GT) (Z : ZT) (k : Nat) : Prop := zk Z k = 20 ∧ (k < gn G ∨ (1000 ≤ k ∧ k < 1000 + gt G))
theorem Ob.oa {G : GT} {Z : ZT} {k : Nat} (h : Ob G Z k 20) : Oa G Z k := ⟨h.1, Or.inl h.2⟩
theorem ce_arr {G : GT} {Z : ZT} {μ : MT} {k c : Nat} (h : zk Z k = c) (h1 : 20 ≤ c) (h2 : c < 23) : ce G Z μ k = .inl (gc G c, zl Z k, .inl (μ k)) := by
  subst h
  unfold ce
  rw [if_neg (by omega), if_pos h2]
theorem ce_ref {G : GT} {Z : ZT} {μ : MT} {k c : Nat} (h : zk Z k = c) (h1 : 23 ≤ c) : ce G Z μ k = .inl (gc G c, zl Z k, .inr (.inr (.inr (.inr (fun j => some (ga G (zr Z k j))))))) := by
  subst h
  unfold ce
  rw [if_neg (by omega), if_neg (by omega)]
theorem ce_obj {G : GT} {Z : ZT} {μ : MT} {k c : Nat} (h : zk Z k = c) (h1 : c < 20) : ce G Z μ k = .inr (c, (List.range (nfl c)).map (fv G Z μ k)) := by
  subst h
  unfold ce
  rw [if_pos h1]
theorem fs_get {G : GT} {Z : ZT} {μ : MT} {k c j : Nat} (hj : j < nfl c) : ((List.range (nfl c)).map (fv G Z μ k))[j]? = some (fv G Z μ k j) := by
  rw [List.getElem?_map, List.getElem?_range hj]
  rfl
theorem fs_set {G : GT} {Z : ZT} {μ : MT} {k c j : Nat} {x : Int32} {v : Value} (hc : zk Z k = c) (hv : v = fv G Z (u2 μ k j x) k j) : ((List.range (nfl c)).map (fv G Z μ k)).set j v = (List.range (nfl c)).map (fv G Z (u2 μ k j x) k) := by
  subst hv
  apply List.ext_getElem?
  intro i
  rw [List.getElem?_set, List.length_map, List.length_range]
  by_cases hi : j = i
  · subst hi
    rw [if_pos rfl]
    by_cases hj : j < nfl c
    · rw [if_pos hj, fs_get hj]
    · rw [if_neg hj, List.getElem?_eq_none (by simp; omega)]
  · rw [if_neg hi]
    by_cases hg : i < nfl c
    · rw [fs_get hg, fs_get hg]
      congr 1
      unfold fv
      rw [u2_s]
      have hij : ¬ i = j := fun q => hi q.symm
      simp [upd, hij]
    · rw [List.getElem?_eq_none (by simp; omega), List.getElem?_eq_none (by simp; omega)]
end
section
/-! ===== the walk over the plain memory: one rule an instruction ===== -/
abbrev CX : Type := Program × Launch × Env × Room × State × MethodId × Array Value × List Frame × Method × Code
abbrev xR (x : CX) : Room := x.2.2.2.1
abbrev xs (x : CX) : State := x.2.2.2.2.1
abbrev xm (x : CX) : MethodId := x.2.2.2.2.2.1
abbrev xa (x : CX) : Array Value := x.2.2.2.2.2.2.1
abbrev xb (x : CX) : List Frame := x.2.2.2.2.2.2.2.1
abbrev xM (x : CX) : Method := x.2.2.2.2.2.2.2.2.1
abbrev xc (x : CX) : Code := x.2.2.2.2.2.2.2.2.2
/-- the String constants -/
abbrev txK : List Nat := [45, 47, 49, 51, 53, 55, 57, 59, 61, 63, 65, 67, 69, 71]
abbrev txS : List String := ["tack", "on", "back", "skip", "second", "turned", "flame", "wait", "clamp", "free", "panel", "seam", "before", ""]
abbrev txL : List Nat := [4, 2, 4, 4, 6, 6, 5, 4, 5, 4, 5, 4, 6, 0]
abbrev txB : List (List Int32) := [[116, 97, 99, 107], [111, 110], [98, 97, 99, 107], [115, 107, 105, 112], [115, 101, 99, 111, 110, 100], [116, 117, 114, 110, 101, 100], [102, 108, 97, 109, 101], [119, 97, 105, 116], [99, 108, 97, 109, 112], [102, 114, 101, 101], [112, 97, 110, 101, 108], [115, 101, 97, 109], [98, 101, 102, 111, 114, 101], []]
/-- the words on nest mates -/
def nestW : List Cond := [.methodLinkNest "SeamPull" 18 ⟨"SeamPull$Tape", "<init>", "()V"⟩ "SeamPull", .fieldLinkNest "SeamPull" 335 "SeamPull$Tape" "size" "I" "SeamPull", .methodLinkNest "SeamPull" 44 ⟨"SeamPull$Panel", "<init>", "()V"⟩ "SeamPull", .fieldLinkNest "SeamPull" 233 "SeamPull$Panel" "hold" "[I" "SeamPull", .fieldLinkNest "SeamPull$Beforehand" 46 "SeamPull$Panel" "bend" "[I" "SeamPull", .fieldLinkNest "SeamPull" 236 "SeamPull$Panel" "bend" "[I" "SeamPull", .fieldLinkNest "SeamPull$Beforehand" 42 "SeamPull$Panel" "cells" "I" "SeamPull", .fieldLinkNest "SeamPull" 245 "SeamPull$Panel" "minutes" "I" "SeamPull", .methodLinkNest "SeamPull$Search" 38 ⟨"SeamPull$Panel", "<init>", "()V"⟩ "SeamPull", .fieldLinkNest "SeamPull" 261 "SeamPull$Search" "nearest" "[I" "SeamPull", .fieldLinkNest "SeamPull" 255 "SeamPull$Search" "fits" "Z" "SeamPull", .fieldLinkNest "SeamPull" 258 "SeamPull$Search" "leastOff" "I" "SeamPull", .methodLinkNest "SeamPull" 61 ⟨"SeamPull$Beforehand", "<init>", "()V"⟩ "SeamPull", .fieldLinkNest "SeamPull" 270 "SeamPull$Beforehand" "bends" "[I" "SeamPull", .methodLinkNest "SeamPull" 68 ⟨"SeamPull$Asks", "<init>", "()V"⟩ "SeamPull", .methodLinkNest "SeamPull" 75 ⟨"SeamPull$Plan", "<init>", "()V"⟩ "SeamPull", .fieldLinkNest "SeamPull$Search" 39 "SeamPull$Plan" "cells" "I" "SeamPull", .fieldLinkNest "SeamPull$Reader" 54 "SeamPull$Plan" "cells" "I" "SeamPull", .fieldLinkNest "SeamPull$Panel" 61 "SeamPull$Plan" "cells" "I" "SeamPull", .fieldLinkNest "SeamPull" 172 "SeamPull$Plan" "cells" "I" "SeamPull", .fieldLinkNest "SeamPull$Reader" 61 "SeamPull$Plan" "seams" "I" "SeamPull", .fieldLinkNest "SeamPull$Search" 52 "SeamPull$Plan" "seams" "I" "SeamPull", .fieldLinkNest "SeamPull$Panel" 68 "SeamPull$Plan" "seams" "I" "SeamPull", .fieldLinkNest "SeamPull" 210 "SeamPull$Plan" "seams" "I" "SeamPull", .fieldLinkNest "SeamPull$Reader" 74 "SeamPull$Plan" "acts" "I" "SeamPull", .fieldLinkNest "SeamPull" 154 "SeamPull$Plan" "acts" "I" "SeamPull", .fieldLinkNest "SeamPull$Reader" 81 "SeamPull$Plan" "befores" "I" "SeamPull", .fieldLinkNest "SeamPull" 332 "SeamPull$Plan" "befores" "I" "SeamPull", .fieldLinkNest "SeamPull$Panel" 88 "SeamPull$Plan" "actKind" "[I" "SeamPull", .fieldLinkNest "SeamPull" 186 "SeamPull$Plan" "actKind" "[I" "SeamPull", .fieldLinkNest "SeamPull$Panel" 85 "SeamPull$Plan" "actPlace" "[I" "SeamPull", .fieldLinkNest "SeamPull" 189 "SeamPull$Plan" "actPlace" "[I" "SeamPull", .fieldLinkNest "SeamPull$Panel" 95 "SeamPull$Plan" "actStrength" "[I" "SeamPull", .fieldLinkNest "SeamPull$Asks" 53 "SeamPull$Plan" "actStrength" "[I" "SeamPull", .fieldLinkNest "SeamPull" 195 "SeamPull$Plan" "actStrength" "[I" "SeamPull", .fieldLinkNest "SeamPull" 199 "SeamPull$Plan" "actSeam" "[I" "SeamPull", .fieldLinkNest "SeamPull$Beforehand" 29 "SeamPull" "BY_NUMBERS" "[I" "SeamPull"]
/-- what the tables say, at a state -/
def KS (G : GT) (U : State) : Prop := va_K (gD G) vwCl (ats G) U ∧ (∀ w ∈ nestW, va_Nw w U) ∧ (∀ i, i < 14 → vk_R "SeamPull$Tape" (txK.getD i 0) (txS.getD i "") (ga G (2000 + i)) U)
/-- the given statics, at a state and a heap -/
def KH (G : GT) (U : State) (H : Heap) : Prop := va_Z "SeamPull" "BY_NUMBERS" "[I" (.ref (ga G 1000)) (gA G) U H ∧ va_Z "SeamPull$Asks" "NEAREST" "[I" (.ref (ga G 1001)) (gA G) U H ∧ va_Z "SeamPull$Asks" "SIZE_BODY" "[I" (.ref (ga G 1002)) (gA G) U H ∧ va_Z "SeamPull$Asks" "MARK_BODY" "[I" (.ref (ga G 1003)) (gA G) U H ∧ va_Z "java/lang/String" "COMPACT_STRINGS" "Z" (.int 1) (gA G) U H ∧ vk_S 14 txL txB (fun i => ga G (2000 + i)) (fun i => ga G (2100 + i)) (gA G) U H
/-- the given tables -/
def roT : List (List Int32) := [[0, 1, 2, 3, 4, 5], [0, 0, 0, 2, 3, 2, 2, 0], [0, 0, 11, 12, 13, 0, 0, 14], [0, 21, 0, 0, 0, 0, 22, 23]]
def roR (i j : Nat) : Int32 := (roT.getD i []).getD j 0
def KT (G : GT) (U : State) (H : Heap) : Prop := ∀ i, i < gt G → va_T .int (ga G (1000 + i)) (roT.getD i []).length (fun j => .int (roR i j)) (gA G) U H
/-- the given tables' rows stand in the memory -/
def ROk (G : GT) (μ : MT) : Prop := ∀ i, i < gt G → μ (1000 + i) = roR i
def DA (G : GT) : Prop := (∀ i j, i < gn G → j < gn G → ga G i = ga G j → i = j) ∧ (∀ k, k < gn G → gb G ≤ ga G k) ∧ gn G ≤ 1000
/-- the kind that a class's field points to -/
def tgt (c j : Nat) : Nat := match c, j with
  | 0, 0 => 20
  | 1, 0 => 20
  | 1, 1 => 20
  | 2, 0 => 20
  | 2, 1 => 20
  | 2, 2 => 20
  | 2, 3 => 20
  | 2, 4 => 20
  | 2, 5 => 20
  | 3, 4 => 20
  | 3, 5 => 20
  | 3, 6 => 20
  | 3, 7 => 20
  | 3, 8 => 20
  | 3, 9 => 20
  | 4, 0 => 7
  | 5, 0 => 24
  | 5, 1 => 20
  | 5, 2 => 20
  | 5, 3 => 20
  | 6, 0 => 20
  | 6, 1 => 20
  | 6, 2 => 23
  | 7, 0 => 21
  | 8, 0 => 6
  | 8, 1 => 7
  | 8, 2 => 4
  | 8, 3 => 20
  | 8, 4 => 20
  | 8, 5 => 20
  | 8, 6 => 2
  | 8, 7 => 2
  | 8, 8 => 5
  | 8, 9 => 1
  | 8, 10 => 0
  | 8, 11 => 3
  | 8, 12 => 3
  | 9, 2 => 20
  | 9, 3 => 20
  | 9, 4 => 20
  | 9, 9 => 20
  | 9, 10 => 20
  | 9, 11 => 20
  | 9, 16 => 20
  | 9, 17 => 20
  | 9, 18 => 20
  | 9, 19 => 20
  | 9, 29 => 20
  | 9, 30 => 20
  | 9, 32 => 20
  | 9, 33 => 20
  | 9, 34 => 22
  | 9, 36 => 20
  | 9, 38 => 20
  | 9, 39 => 20
  | 9, 40 => 20
  | 9, 41 => 20
  | _, _ => 99
def WT (G : GT) (Z : ZT) : Prop := (∀ c j k, c < 20 → rk c j = 1 → j < nfl c → Ob G Z k c → Ob G Z (zr Z k j) (tgt c j)) ∧ (∀ k i, Ob G Z k 23 → i < zl Z k → Ob G Z (zr Z k i) 20) ∧ (∀ k i, Ob G Z k 24 → i < zl Z k → Ob G Z (zr Z k i) 2) ∧ (∀ i, i < gt G → zl Z (1000 + i) = (roT.getD i []).length) ∧ (∀ i, i < 4 → Oa G Z (1000 + i))
def CF (x : CX) (G : GT) (Z : ZT) (cc : ByteArray) (nL : Nat) (Ts : List Cond) (own : String) : Prop :=
  x.1.tables.exec = Jvm.exec ∧ (xc x).code = cc ∧ (xc x).maxLocals = nL ∧ (xs x).vm.findClass own = some (xm x).cls ∧ (∀ w ∈ Ts, w.before (xa x) (xs x) = true) ∧ KS G (xs x) ∧ KH G (xs x) (xs x).heap ∧ DA G ∧ WT G Z ∧ (xM x).locks = false ∧ KT G (xs x) (xs x).heap
def PW (G : GT) (Z : ZT) (μ : MT) (s : State) (H : Heap) (locs : List Loc) : Prop := va_P (gD G) vwCl (wd G Z μ) H ∧ va_S (gA G) s.heap H locs ∧ ROk G μ
def VK {α β : Type} (x : CX) (G : GT) (Z : ZT) (cs : Nat × Nat) (nL : Nat) (Q : Option Value → MT → State → Prop) (J : α → Option Value × MT) (pc : Nat) (lv : List (Nat × Value)) (st : List Value) (μ : MT) (o : Option β) (f : β → Option α) : Prop :=
  ∀ a, o.bind f = some a → ∀ (H : Heap) (locs : List Loc) (ls : Array Slot), PW G Z μ (xs x) H locs → lv_has ls nL lv → W x.1 x.2.1 x.2.2.1 (xR x) (xs x) (xm x) (xa x) (xb x) (xM x) (xc x) H locs cs.1 cs.2 (Q (J a).1 (J a).2) (F0 (xm x) pc ls st)
theorem DA.vd {G : GT} (h : DA G) (Z : ZT) (μ : MT) : va_D (gA G) (wd G Z μ) := by
  have key : ∀ (i : Nat) (q : Nat × va_E), (wd G Z μ)[i]? = some q → i < gn G ∧ q.1 = ga G i := by
    intro i q hi
    have hl : i < gn G := by
      have := (List.getElem?_eq_some_iff.mp hi).1
      simpa [wd] using this
    rw [wd_get hl] at hi
    cases hi
    exact ⟨hl, rfl⟩
  refine ⟨fun i j p q hi hj hpq => ?_, fun k q hk => ?_⟩
  · obtain ⟨h1, h2⟩ := key i p hi
    obtain ⟨h3, h4⟩ := key j q hj
    exact h.1 i j h1 h3 (by rw [← h2, ← h4]; exact hpq)
  · obtain ⟨h1, h2⟩ := key k q hk
    show gb G ≤ q.1
    rw [h2]
    exact h.2.1 k h1
theorem ROk.u2 {G : GT} {μ ν : MT} (h : ROk G μ) (ho : ∀ q, 1000 ≤ q → ν q = μ q) : ROk G ν := by
  intro i hi
  rw [ho (1000 + i) (by omega)]
  exact h i hi
theorem ob_r {α : Type} (o : Option α) : o.bind some = o := by cases o <;> rfl
section VRULES
variable {α β γ : Type} {x : CX} {G : GT} {Z : ZT} {cs : Nat × Nat} {nL : Nat} {Q : Option Value → MT → State → Prop} {J : α → Option Value × MT} {pc : Nat} {lv : List (Nat × Value)} {st : List Value} {μ : MT} {o : Option β} {f : β → Option α} {cc : ByteArray} {Ts : List Cond} {own : String}
theorem v_enter {o : Option γ} {g : γ → Option β} (h : VK x G Z cs nL Q J pc lv st μ o (fun t => (g t).bind f)) : VK x G Z cs nL Q J pc lv st μ (o.bind g) f := by
  intro a ha
  refine h a ?_
  rw [Option.bind_assoc] at ha
  exact ha
theorem v_leaf {t : γ} {F : γ → Option α} (h : VK x G Z cs nL Q J pc lv st μ (F t) some) : VK x G Z cs nL Q J pc lv st μ (some t) F := by
  intro a ha
  exact h a (by rw [ob_r]; exact ha)
/-- what the rest is, by its value alone -/
theorem v_unb {o' : Option α} (h : VK x G Z cs nL Q J pc lv st μ o f) (e : o.bind f = o') : VK x G Z cs nL Q J pc lv st μ o' some := by
  intro a ha
  rw [ob_r] at ha
  exact h a (by rw [e]; exact ha)
theorem v_none {F : γ → Option α} : VK x G Z cs nL Q J pc lv st μ none F := by
  intro a ha
  cases ha
theorem v_case {c : Prop} [Decidable c] {o1 o2 : Option β} (h1 : c → VK x G Z cs nL Q J pc lv st μ o1 f) (h2 : ¬ c → VK x G Z cs nL Q J pc lv st μ o2 f) : VK x G Z cs nL Q J pc lv st μ (if c then o1 else o2) f := by
  by_cases h : c
  · rw [if_pos h]
    exact h1 h
  · rw [if_neg h]
    exact h2 h
theorem v_sub {lv' : List (Nat × Value)} (ks : List Nat) (hl : lv_pick lv ks = lv') (h : VK x G Z cs nL Q J pc lv' st μ o f) : VK x G Z cs nL Q J pc lv st μ o f :=
  fun a ha H locs ls hP hL => h a ha H locs ls hP (lv_sub hL ks hl)
/-- a value gets a name -/
theorem v_let {y : γ} {pc : Nat} {g : γ → Option β} (P : γ → List (Nat × Value)) (S : γ → List Value) (h : ∀ z, VK x G Z cs nL Q J pc (P z) (S z) μ (g z) f) : VK x G Z cs nL Q J pc (P y) (S y) μ ((some y).bind g) f := h y
theorem v_iconst (C : CF x G Z cc nL Ts own) {n : Int} {v : Int32} (hv : Int32.ofInt n = v) (hd : decode cc pc = .ok (.iconst n, 1))
    (k : VK x G Z cs nL Q J (pc + 1) lv (.int v :: st) μ o f) : VK x G Z cs nL Q J pc lv st μ o f :=
  fun a ha H locs ls hP hl => lv_iconst C.1 C.2.1 hd hv (k a ha H locs ls hP hl)
theorem v_bipush (C : CF x G Z cc nL Ts own) {n : Int} {v : Int32} (hv : (Int8.ofInt n).toInt32 = v) (hd : decode cc pc = .ok (.bipush n, 2))
    (k : VK x G Z cs nL Q J (pc + 2) lv (.int v :: st) μ o f) : VK x G Z cs nL Q J pc lv st μ o f :=
  fun a ha H locs ls hP hl => lv_bipush C.1 C.2.1 hd hv (k a ha H locs ls hP hl)
theorem v_sipush (C : CF x G Z cc nL Ts own) {n : Int} {v : Int32} (hv : (Int16.ofInt n).toInt32 = v) (hd : decode cc pc = .ok (.sipush n, 3))
    (k : VK x G Z cs nL Q J (pc + 3) lv (.int v :: st) μ o f) : VK x G Z cs nL Q J pc lv st μ o f :=
  fun a ha H locs ls hP hl => lv_sipush C.1 C.2.1 hd hv (k a ha H locs ls hP hl)
theorem v_lconst (C : CF x G Z cc nL Ts own) {n : Fin 2} {v : Int64} (hv : Int64.ofNat (n : Nat) = v) (hd : decode cc pc = .ok (.lconst n, 1))
    (k : VK x G Z cs nL Q J (pc + 1) lv (.long v :: st) μ o f) : VK x G Z cs nL Q J pc lv st μ o f :=
  fun a ha H locs ls hP hl => lv_lconst C.1 C.2.1 hd hv (k a ha H locs ls hP hl)
theorem v_ldc (C : CF x G Z cc nL Ts own) {index : Nat} {v : Int32} (hv : Cond.constant own index v ∈ Ts) (hd : decode cc pc = .ok (.ldc index, 2))
    (k : VK x G Z cs nL Q J (pc + 2) lv (.int v :: st) μ o f) : VK x G Z cs nL Q J pc lv st μ o f :=
  fun a ha H locs ls hP hl => lv_ldc C.1 C.2.1 C.2.2.2.1 (C.2.2.2.2.1 _ hv) hd (k a ha H locs ls hP hl)
theorem v_ldcw (C : CF x G Z cc nL Ts own) {index : Nat} {v : Int32} (hv : Cond.constant own index v ∈ Ts) (hd : decode cc pc = .ok (.ldc_w index, 3))
    (k : VK x G Z cs nL Q J (pc + 3) lv (.int v :: st) μ o f) : VK x G Z cs nL Q J pc lv st μ o f :=
  fun a ha H locs ls hP hl => lv_ldcw C.1 C.2.1 C.2.2.2.1 (C.2.2.2.2.1 _ hv) hd (k a ha H locs ls hP hl)
theorem v_ldc2 (C : CF x G Z cc nL Ts own) {index : Nat} {v : Int64} (hv : Cond.constantLong own index v ∈ Ts) (hd : decode cc pc = .ok (.ldc2_w index, 3))
    (k : VK x G Z cs nL Q J (pc + 3) lv (.long v :: st) μ o f) : VK x G Z cs nL Q J pc lv st μ o f :=
  fun a ha H locs ls hP hl => lv_ldc2 C.1 C.2.1 C.2.2.2.1 (C.2.2.2.2.1 _ hv) hd (k a ha H locs ls hP hl)
theorem v_iload_n (C : CF x G Z cc nL Ts own) {q : Fin 4} {i n : Nat} {y : Int32} (hi : (q : Nat) = i) (hy : lv[n]? = some (i, .int y)) (hd : decode cc pc = .ok (.iload_n q, 1))
    (k : VK x G Z cs nL Q J (pc + 1) lv (.int y :: st) μ o f) : VK x G Z cs nL Q J pc lv st μ o f :=
  fun a ha H locs ls hP hl => lv_iload_n C.1 C.2.1 hd hi (lv_at hl n hy) (k a ha H locs ls hP hl)
theorem v_iload (C : CF x G Z cc nL Ts own) {i n : Nat} {y : Int32} (hy : lv[n]? = some (i, .int y)) (hd : decode cc pc = .ok (.iload i, 2))
    (k : VK x G Z cs nL Q J (pc + 2) lv (.int y :: st) μ o f) : VK x G Z cs nL Q J pc lv st μ o f :=
  fun a ha H locs ls hP hl => lv_iload C.1 C.2.1 hd (lv_at hl n hy) (k a ha H locs ls hP hl)
theorem v_lload_n (C : CF x G Z cc nL Ts own) {q : Fin 4} {i n : Nat} {y : Int64} (hi : (q : Nat) = i) (hy : lv[n]? = some (i, .long y)) (hd : decode cc pc = .ok (.lload_n q, 1))
    (k : VK x G Z cs nL Q J (pc + 1) lv (.long y :: st) μ o f) : VK x G Z cs nL Q J pc lv st μ o f :=
  fun a ha H locs ls hP hl => lv_lload_n C.1 C.2.1 hd hi (lv_at hl n hy) (k a ha H locs ls hP hl)
theorem v_lload (C : CF x G Z cc nL Ts own) {i n : Nat} {y : Int64} (hy : lv[n]? = some (i, .long y)) (hd : decode cc pc = .ok (.lload i, 2))
    (k : VK x G Z cs nL Q J (pc + 2) lv (.long y :: st) μ o f) : VK x G Z cs nL Q J pc lv st μ o f :=
  fun a ha H locs ls hP hl => lv_lload C.1 C.2.1 hd (lv_at hl n hy) (k a ha H locs ls hP hl)
theorem v_aload_n (C : CF x G Z cc nL Ts own) {q : Fin 4} {i n : Nat} {y : Nat} (hi : (q : Nat) = i) (hy : lv[n]? = some (i, .ref y)) (hd : decode cc pc = .ok (.aload_n q, 1))
    (k : VK x G Z cs nL Q J (pc + 1) lv (.ref y :: st) μ o f) : VK x G Z cs nL Q J pc lv st μ o f :=
  fun a ha H locs ls hP hl => lv_aload_n C.1 C.2.1 hd hi (lv_at hl n hy) (k a ha H locs ls hP hl)
theorem v_aload (C : CF x G Z cc nL Ts own) {i n : Nat} {y : Nat} (hy : lv[n]? = some (i, .ref y)) (hd : decode cc pc = .ok (.aload i, 2))
    (k : VK x G Z cs nL Q J (pc + 2) lv (.ref y :: st) μ o f) : VK x G Z cs nL Q J pc lv st μ o f :=
  fun a ha H locs ls hP hl => lv_aload C.1 C.2.1 hd (lv_at hl n hy) (k a ha H locs ls hP hl)
theorem v_istore_n (C : CF x G Z cc nL Ts own) {q : Fin 4} {i : Nat} {y : Int32} {lv' : List (Nat × Value)} (hi : (q : Nat) = i) (hn : i < nL) (hv : (i, Value.int y) :: lv.filter (fun q => !(q.1 == i) && !(q.1 + 1 == i && q.2.category == 2)) = lv') (hd : decode cc pc = .ok (.istore_n q, 1))
    (k : VK x G Z cs nL Q J (pc + 1) lv' st μ o f) : VK x G Z cs nL Q J pc lv (.int y :: st) μ o f :=
  fun a ha H locs ls hP hl => lv_istore_n C.1 C.2.1 hd hi hl hn hv (fun ls hl => k a ha H locs ls hP hl)
theorem v_istore (C : CF x G Z cc nL Ts own) {i : Nat} {y : Int32} {lv' : List (Nat × Value)} (hn : i < nL) (hv : (i, Value.int y) :: lv.filter (fun q => !(q.1 == i) && !(q.1 + 1 == i && q.2.category == 2)) = lv') (hd : decode cc pc = .ok (.istore i, 2))
    (k : VK x G Z cs nL Q J (pc + 2) lv' st μ o f) : VK x G Z cs nL Q J pc lv (.int y :: st) μ o f :=
  fun a ha H locs ls hP hl => lv_istore C.1 C.2.1 hd hl hn hv (fun ls hl => k a ha H locs ls hP hl)
theorem v_lstore_n (C : CF x G Z cc nL Ts own) {q : Fin 4} {i : Nat} {y : Int64} {lv' : List (Nat × Value)} (hi : (q : Nat) = i) (hn : i + 1 < nL) (hv : (i, Value.long y) :: lv.filter (fun q => !(q.1 == i) && (!(q.1 == i + 1) && !(q.1 + 1 == i && q.2.category == 2))) = lv') (hd : decode cc pc = .ok (.lstore_n q, 1))
    (k : VK x G Z cs nL Q J (pc + 1) lv' st μ o f) : VK x G Z cs nL Q J pc lv (.long y :: st) μ o f :=
  fun a ha H locs ls hP hl => lv_lstore_n C.1 C.2.1 hd hi hl hn hv (fun ls hl => k a ha H locs ls hP hl)
theorem v_lstore (C : CF x G Z cc nL Ts own) {i : Nat} {y : Int64} {lv' : List (Nat × Value)} (hn : i + 1 < nL) (hv : (i, Value.long y) :: lv.filter (fun q => !(q.1 == i) && (!(q.1 == i + 1) && !(q.1 + 1 == i && q.2.category == 2))) = lv') (hd : decode cc pc = .ok (.lstore i, 2))
    (k : VK x G Z cs nL Q J (pc + 2) lv' st μ o f) : VK x G Z cs nL Q J pc lv (.long y :: st) μ o f :=
  fun a ha H locs ls hP hl => lv_lstore C.1 C.2.1 hd hl hn hv (fun ls hl => k a ha H locs ls hP hl)
theorem v_astore_n (C : CF x G Z cc nL Ts own) {q : Fin 4} {i : Nat} {y : Nat} {lv' : List (Nat × Value)} (hi : (q : Nat) = i) (hn : i < nL) (hv : (i, Value.ref y) :: lv.filter (fun q => !(q.1 == i) && !(q.1 + 1 == i && q.2.category == 2)) = lv') (hd : decode cc pc = .ok (.astore_n q, 1))
    (k : VK x G Z cs nL Q J (pc + 1) lv' st μ o f) : VK x G Z cs nL Q J pc lv (.ref y :: st) μ o f :=
  fun a ha H locs ls hP hl => lv_astore_n C.1 C.2.1 hd hi hl hn hv (fun ls hl => k a ha H locs ls hP hl)
theorem v_astore (C : CF x G Z cc nL Ts own) {i : Nat} {y : Nat} {lv' : List (Nat × Value)} (hn : i < nL) (hv : (i, Value.ref y) :: lv.filter (fun q => !(q.1 == i) && !(q.1 + 1 == i && q.2.category == 2)) = lv') (hd : decode cc pc = .ok (.astore i, 2))
    (k : VK x G Z cs nL Q J (pc + 2) lv' st μ o f) : VK x G Z cs nL Q J pc lv (.ref y :: st) μ o f :=
  fun a ha H locs ls hP hl => lv_astore C.1 C.2.1 hd hl hn hv (fun ls hl => k a ha H locs ls hP hl)
theorem v_iinc (C : CF x G Z cc nL Ts own) {i n : Nat} {z : Int} {y v : Int32} {lv' : List (Nat × Value)} (hy : lv[n]? = some (i, .int y)) (hz : y + Int32.ofInt z = v) (hn : i < nL) (hv : (i, Value.int v) :: lv.filter (fun q => !(q.1 == i) && !(q.1 + 1 == i && q.2.category == 2)) = lv') (hd : decode cc pc = .ok (.iinc i z, 3))
    (k : VK x G Z cs nL Q J (pc + 3) lv' st μ o f) : VK x G Z cs nL Q J pc lv st μ o f :=
  fun a ha H locs ls hP hl => lv_iinc C.1 C.2.1 hd hl hy hz hn hv (fun ls hl => k a ha H locs ls hP hl)
theorem v_iadd (C : CF x G Z cc nL Ts own) {y z : Int32} (hd : decode cc pc = .ok (.iadd, 1))
    (k : VK x G Z cs nL Q J (pc + 1) lv (.int (y + z) :: st) μ o f) : VK x G Z cs nL Q J pc lv (.int z :: .int y :: st) μ o f :=
  fun a ha H locs ls hP hl => lv_iadd C.1 C.2.1 hd (k a ha H locs ls hP hl)
theorem v_isub (C : CF x G Z cc nL Ts own) {y z : Int32} (hd : decode cc pc = .ok (.isub, 1))
    (k : VK x G Z cs nL Q J (pc + 1) lv (.int (y - z) :: st) μ o f) : VK x G Z cs nL Q J pc lv (.int z :: .int y :: st) μ o f :=
  fun a ha H locs ls hP hl => lv_isub C.1 C.2.1 hd (k a ha H locs ls hP hl)
theorem v_imul (C : CF x G Z cc nL Ts own) {y z : Int32} (hd : decode cc pc = .ok (.imul, 1))
    (k : VK x G Z cs nL Q J (pc + 1) lv (.int (y * z) :: st) μ o f) : VK x G Z cs nL Q J pc lv (.int z :: .int y :: st) μ o f :=
  fun a ha H locs ls hP hl => lv_imul C.1 C.2.1 hd (k a ha H locs ls hP hl)
theorem v_iand (C : CF x G Z cc nL Ts own) {y z : Int32} (hd : decode cc pc = .ok (.iand, 1))
    (k : VK x G Z cs nL Q J (pc + 1) lv (.int (y &&& z) :: st) μ o f) : VK x G Z cs nL Q J pc lv (.int z :: .int y :: st) μ o f :=
  fun a ha H locs ls hP hl => lv_iand C.1 C.2.1 hd (k a ha H locs ls hP hl)
theorem v_ior (C : CF x G Z cc nL Ts own) {y z : Int32} (hd : decode cc pc = .ok (.ior, 1))
    (k : VK x G Z cs nL Q J (pc + 1) lv (.int (y ||| z) :: st) μ o f) : VK x G Z cs nL Q J pc lv (.int z :: .int y :: st) μ o f :=
  fun a ha H locs ls hP hl => lv_ior C.1 C.2.1 hd (k a ha H locs ls hP hl)
theorem v_ixor (C : CF x G Z cc nL Ts own) {y z : Int32} (hd : decode cc pc = .ok (.ixor, 1))
    (k : VK x G Z cs nL Q J (pc + 1) lv (.int (y ^^^ z) :: st) μ o f) : VK x G Z cs nL Q J pc lv (.int z :: .int y :: st) μ o f :=
  fun a ha H locs ls hP hl => lv_ixor C.1 C.2.1 hd (k a ha H locs ls hP hl)
theorem v_ishl (C : CF x G Z cc nL Ts own) {y z : Int32} (hd : decode cc pc = .ok (.ishl, 1))
    (k : VK x G Z cs nL Q J (pc + 1) lv (.int (y <<< (z &&& 31)) :: st) μ o f) : VK x G Z cs nL Q J pc lv (.int z :: .int y :: st) μ o f :=
  fun a ha H locs ls hP hl => lv_ishl C.1 C.2.1 hd (k a ha H locs ls hP hl)
theorem v_ishr (C : CF x G Z cc nL Ts own) {y z : Int32} (hd : decode cc pc = .ok (.ishr, 1))
    (k : VK x G Z cs nL Q J (pc + 1) lv (.int (y >>> (z &&& 31)) :: st) μ o f) : VK x G Z cs nL Q J pc lv (.int z :: .int y :: st) μ o f :=
  fun a ha H locs ls hP hl => lv_ishr C.1 C.2.1 hd (k a ha H locs ls hP hl)
theorem v_iushr (C : CF x G Z cc nL Ts own) {y z v : Int32} (hv : (y.toUInt32 >>> (z.toUInt32 &&& Int32.toUInt32 31)).toInt32 = v) (hd : decode cc pc = .ok (.iushr, 1))
    (k : VK x G Z cs nL Q J (pc + 1) lv (.int v :: st) μ o f) : VK x G Z cs nL Q J pc lv (.int z :: .int y :: st) μ o f :=
  fun a ha H locs ls hP hl => lv_iushr C.1 C.2.1 hd hv (k a ha H locs ls hP hl)
theorem v_ladd (C : CF x G Z cc nL Ts own) {y z : Int64} (hd : decode cc pc = .ok (.ladd, 1))
    (k : VK x G Z cs nL Q J (pc + 1) lv (.long (y + z) :: st) μ o f) : VK x G Z cs nL Q J pc lv (.long z :: .long y :: st) μ o f :=
  fun a ha H locs ls hP hl => lv_ladd C.1 C.2.1 hd (k a ha H locs ls hP hl)
theorem v_lsub (C : CF x G Z cc nL Ts own) {y z : Int64} (hd : decode cc pc = .ok (.lsub, 1))
    (k : VK x G Z cs nL Q J (pc + 1) lv (.long (y - z) :: st) μ o f) : VK x G Z cs nL Q J pc lv (.long z :: .long y :: st) μ o f :=
  fun a ha H locs ls hP hl => lv_lsub C.1 C.2.1 hd (k a ha H locs ls hP hl)
theorem v_land (C : CF x G Z cc nL Ts own) {y z : Int64} (hd : decode cc pc = .ok (.land, 1))
    (k : VK x G Z cs nL Q J (pc + 1) lv (.long (y &&& z) :: st) μ o f) : VK x G Z cs nL Q J pc lv (.long z :: .long y :: st) μ o f :=
  fun a ha H locs ls hP hl => lv_land C.1 C.2.1 hd (k a ha H locs ls hP hl)
theorem v_lor (C : CF x G Z cc nL Ts own) {y z : Int64} (hd : decode cc pc = .ok (.lor, 1))
    (k : VK x G Z cs nL Q J (pc + 1) lv (.long (y ||| z) :: st) μ o f) : VK x G Z cs nL Q J pc lv (.long z :: .long y :: st) μ o f :=
  fun a ha H locs ls hP hl => lv_lor C.1 C.2.1 hd (k a ha H locs ls hP hl)
theorem v_lshl (C : CF x G Z cc nL Ts own) {y v : Int64} {z : Int32} (hv : y <<< (z.toInt64 &&& 63) = v) (hd : decode cc pc = .ok (.lshl, 1))
    (k : VK x G Z cs nL Q J (pc + 1) lv (.long v :: st) μ o f) : VK x G Z cs nL Q J pc lv (.int z :: .long y :: st) μ o f :=
  fun a ha H locs ls hP hl => lv_lshl C.1 C.2.1 hd hv (k a ha H locs ls hP hl)
theorem v_lshr (C : CF x G Z cc nL Ts own) {y v : Int64} {z : Int32} (hv : y >>> (z.toInt64 &&& 63) = v) (hd : decode cc pc = .ok (.lshr, 1))
    (k : VK x G Z cs nL Q J (pc + 1) lv (.long v :: st) μ o f) : VK x G Z cs nL Q J pc lv (.int z :: .long y :: st) μ o f :=
  fun a ha H locs ls hP hl => lv_lshr C.1 C.2.1 hd hv (k a ha H locs ls hP hl)
theorem v_lcmp (C : CF x G Z cc nL Ts own) {y z : Int64} (hd : decode cc pc = .ok (.lcmp, 1))
    (k : VK x G Z cs nL Q J (pc + 1) lv (.int (lg_cmp y z) :: st) μ o f) : VK x G Z cs nL Q J pc lv (.long z :: .long y :: st) μ o f :=
  fun a ha H locs ls hP hl => W.lcmp C.1 C.2.1 hd (k a ha H locs ls hP hl)
theorem v_ineg (C : CF x G Z cc nL Ts own) {y : Int32} (hd : decode cc pc = .ok (.ineg, 1))
    (k : VK x G Z cs nL Q J (pc + 1) lv (.int (-y) :: st) μ o f) : VK x G Z cs nL Q J pc lv (.int y :: st) μ o f :=
  fun a ha H locs ls hP hl => lv_ineg C.1 C.2.1 hd (k a ha H locs ls hP hl)
theorem v_i2l (C : CF x G Z cc nL Ts own) {y : Int32} {v : Int64} (hv : y.toInt64 = v) (hd : decode cc pc = .ok (.i2l, 1))
    (k : VK x G Z cs nL Q J (pc + 1) lv (.long v :: st) μ o f) : VK x G Z cs nL Q J pc lv (.int y :: st) μ o f :=
  fun a ha H locs ls hP hl => lv_i2l C.1 C.2.1 hd hv (k a ha H locs ls hP hl)
theorem v_l2i (C : CF x G Z cc nL Ts own) {y : Int64} {v : Int32} (hv : y.toInt32 = v) (hd : decode cc pc = .ok (.l2i, 1))
    (k : VK x G Z cs nL Q J (pc + 1) lv (.int v :: st) μ o f) : VK x G Z cs nL Q J pc lv (.long y :: st) μ o f :=
  fun a ha H locs ls hP hl => lv_l2i C.1 C.2.1 hd hv (k a ha H locs ls hP hl)
theorem v_i2b (C : CF x G Z cc nL Ts own) {y v : Int32} (hv : y.toInt8.toInt32 = v) (hd : decode cc pc = .ok (.i2b, 1))
    (k : VK x G Z cs nL Q J (pc + 1) lv (.int v :: st) μ o f) : VK x G Z cs nL Q J pc lv (.int y :: st) μ o f :=
  fun a ha H locs ls hP hl => lv_i2b C.1 C.2.1 hd hv (k a ha H locs ls hP hl)
theorem v_i2s (C : CF x G Z cc nL Ts own) {y v : Int32} (hv : y.toInt16.toInt32 = v) (hd : decode cc pc = .ok (.i2s, 1))
    (k : VK x G Z cs nL Q J (pc + 1) lv (.int v :: st) μ o f) : VK x G Z cs nL Q J pc lv (.int y :: st) μ o f :=
  fun a ha H locs ls hP hl => lv_i2s C.1 C.2.1 hd hv (k a ha H locs ls hP hl)
theorem v_dup (C : CF x G Z cc nL Ts own) {v : Value} (hv : v.category = 1) (hd : decode cc pc = .ok (.dup, 1))
    (k : VK x G Z cs nL Q J (pc + 1) lv (v :: v :: st) μ o f) : VK x G Z cs nL Q J pc lv (v :: st) μ o f :=
  fun a ha H locs ls hP hl => lv_dup C.1 C.2.1 hd hv (k a ha H locs ls hP hl)
theorem v_dup2 (C : CF x G Z cc nL Ts own) {v w : Value} (hv : v.category = 1) (hw : w.category = 1) (hd : decode cc pc = .ok (.dup2, 1))
    (k : VK x G Z cs nL Q J (pc + 1) lv (v :: w :: v :: w :: st) μ o f) : VK x G Z cs nL Q J pc lv (v :: w :: st) μ o f :=
  fun a ha H locs ls hP hl => lv_dup2_11 C.1 C.2.1 hd hv hw (k a ha H locs ls hP hl)
theorem v_dupx1 (C : CF x G Z cc nL Ts own) {v w : Value} (hv : v.category = 1) (hw : w.category = 1) (hd : decode cc pc = .ok (.dup_x1, 1))
    (k : VK x G Z cs nL Q J (pc + 1) lv (v :: w :: v :: st) μ o f) : VK x G Z cs nL Q J pc lv (v :: w :: st) μ o f :=
  fun a ha H locs ls hP hl => lv_dup_x1 C.1 C.2.1 hd hv hw (k a ha H locs ls hP hl)
theorem v_pop (C : CF x G Z cc nL Ts own) {v : Value} (hv : v.category = 1) (hd : decode cc pc = .ok (.pop, 1))
    (k : VK x G Z cs nL Q J (pc + 1) lv st μ o f) : VK x G Z cs nL Q J pc lv (v :: st) μ o f :=
  fun a ha H locs ls hP hl => lv_pop C.1 C.2.1 hd hv (k a ha H locs ls hP hl)
theorem v_goto (C : CF x G Z cc nL Ts own) {off : Int} {t : Nat} (ht : (pc : Int) + off = (t : Int)) (hd : decode cc pc = .ok (.goto off, 3))
    (k : VK x G Z cs nL Q J t lv st μ o f) : VK x G Z cs nL Q J pc lv st μ o f :=
  fun a ha H locs ls hP hl => lv_goto C.1 C.2.1 hd ht (k a ha H locs ls hP hl)
theorem v_ifeq (C : CF x G Z cc nL Ts own) {y : Int32} {off : Int} {t : Nat} {o1 o2 : Option β} (hd : decode cc pc = .ok (.ifCond .eq off, 3)) (ht : (pc : Int) + off = (t : Int))
    (k1 : VK x G Z cs nL Q J t lv st μ o1 f) (k2 : VK x G Z cs nL Q J (pc + 3) lv st μ o2 f) : VK x G Z cs nL Q J pc lv (.int y :: st) μ (if y = 0 then o1 else o2) f :=
  fun a ha H locs ls hP hl => lv_if_eq C.1 C.2.1 hd ht (fun c => k1 a (by rw [if_pos c] at ha; exact ha) H locs ls hP hl) (fun c => k2 a (by rw [if_neg c] at ha; exact ha) H locs ls hP hl)
theorem v_iceq (C : CF x G Z cc nL Ts own) {y z : Int32} {off : Int} {t : Nat} {o1 o2 : Option β} (hd : decode cc pc = .ok (.if_icmp .eq off, 3)) (ht : (pc : Int) + off = (t : Int))
    (k1 : VK x G Z cs nL Q J t lv st μ o1 f) (k2 : VK x G Z cs nL Q J (pc + 3) lv st μ o2 f) : VK x G Z cs nL Q J pc lv (.int z :: .int y :: st) μ (if y = z then o1 else o2) f :=
  fun a ha H locs ls hP hl => lv_icmp_eq C.1 C.2.1 hd ht (fun c => k1 a (by rw [if_pos c] at ha; exact ha) H locs ls hP hl) (fun c => k2 a (by rw [if_neg c] at ha; exact ha) H locs ls hP hl)
theorem v_ifne (C : CF x G Z cc nL Ts own) {y : Int32} {off : Int} {t : Nat} {o1 o2 : Option β} (hd : decode cc pc = .ok (.ifCond .ne off, 3)) (ht : (pc : Int) + off = (t : Int))
    (k1 : VK x G Z cs nL Q J t lv st μ o1 f) (k2 : VK x G Z cs nL Q J (pc + 3) lv st μ o2 f) : VK x G Z cs nL Q J pc lv (.int y :: st) μ (if y = 0 then o2 else o1) f :=
  fun a ha H locs ls hP hl => lv_if_ne C.1 C.2.1 hd ht (fun c => k1 a (by rw [if_neg c] at ha; exact ha) H locs ls hP hl) (fun c => k2 a (by rw [if_pos c] at ha; exact ha) H locs ls hP hl)
theorem v_icne (C : CF x G Z cc nL Ts own) {y z : Int32} {off : Int} {t : Nat} {o1 o2 : Option β} (hd : decode cc pc = .ok (.if_icmp .ne off, 3)) (ht : (pc : Int) + off = (t : Int))
    (k1 : VK x G Z cs nL Q J t lv st μ o1 f) (k2 : VK x G Z cs nL Q J (pc + 3) lv st μ o2 f) : VK x G Z cs nL Q J pc lv (.int z :: .int y :: st) μ (if y = z then o2 else o1) f :=
  fun a ha H locs ls hP hl => lv_icmp_ne C.1 C.2.1 hd ht (fun c => k1 a (by rw [if_neg c] at ha; exact ha) H locs ls hP hl) (fun c => k2 a (by rw [if_pos c] at ha; exact ha) H locs ls hP hl)
theorem v_iflt (C : CF x G Z cc nL Ts own) {y : Int32} {off : Int} {t : Nat} {o1 o2 : Option β} (hd : decode cc pc = .ok (.ifCond .lt off, 3)) (ht : (pc : Int) + off = (t : Int))
    (k1 : VK x G Z cs nL Q J t lv st μ o1 f) (k2 : VK x G Z cs nL Q J (pc + 3) lv st μ o2 f) : VK x G Z cs nL Q J pc lv (.int y :: st) μ (if y < 0 then o1 else o2) f :=
  fun a ha H locs ls hP hl => lv_if_lt C.1 C.2.1 hd ht (fun c => k1 a (by rw [if_pos c] at ha; exact ha) H locs ls hP hl) (fun c => k2 a (by rw [if_neg c] at ha; exact ha) H locs ls hP hl)
theorem v_iclt (C : CF x G Z cc nL Ts own) {y z : Int32} {off : Int} {t : Nat} {o1 o2 : Option β} (hd : decode cc pc = .ok (.if_icmp .lt off, 3)) (ht : (pc : Int) + off = (t : Int))
    (k1 : VK x G Z cs nL Q J t lv st μ o1 f) (k2 : VK x G Z cs nL Q J (pc + 3) lv st μ o2 f) : VK x G Z cs nL Q J pc lv (.int z :: .int y :: st) μ (if y < z then o1 else o2) f :=
  fun a ha H locs ls hP hl => lv_icmp_lt C.1 C.2.1 hd ht (fun c => k1 a (by rw [if_pos c] at ha; exact ha) H locs ls hP hl) (fun c => k2 a (by rw [if_neg c] at ha; exact ha) H locs ls hP hl)
theorem v_ifge (C : CF x G Z cc nL Ts own) {y : Int32} {off : Int} {t : Nat} {o1 o2 : Option β} (hd : decode cc pc = .ok (.ifCond .ge off, 3)) (ht : (pc : Int) + off = (t : Int))
    (k1 : VK x G Z cs nL Q J t lv st μ o1 f) (k2 : VK x G Z cs nL Q J (pc + 3) lv st μ o2 f) : VK x G Z cs nL Q J pc lv (.int y :: st) μ (if 0 ≤ y then o1 else o2) f :=
  fun a ha H locs ls hP hl => lv_if_ge C.1 C.2.1 hd ht (fun c => k1 a (by rw [if_pos c] at ha; exact ha) H locs ls hP hl) (fun c => k2 a (by rw [if_neg c] at ha; exact ha) H locs ls hP hl)
theorem v_icge (C : CF x G Z cc nL Ts own) {y z : Int32} {off : Int} {t : Nat} {o1 o2 : Option β} (hd : decode cc pc = .ok (.if_icmp .ge off, 3)) (ht : (pc : Int) + off = (t : Int))
    (k1 : VK x G Z cs nL Q J t lv st μ o1 f) (k2 : VK x G Z cs nL Q J (pc + 3) lv st μ o2 f) : VK x G Z cs nL Q J pc lv (.int z :: .int y :: st) μ (if z ≤ y then o1 else o2) f :=
  fun a ha H locs ls hP hl => lv_icmp_ge C.1 C.2.1 hd ht (fun c => k1 a (by rw [if_pos c] at ha; exact ha) H locs ls hP hl) (fun c => k2 a (by rw [if_neg c] at ha; exact ha) H locs ls hP hl)
theorem v_ifgt (C : CF x G Z cc nL Ts own) {y : Int32} {off : Int} {t : Nat} {o1 o2 : Option β} (hd : decode cc pc = .ok (.ifCond .gt off, 3)) (ht : (pc : Int) + off = (t : Int))
    (k1 : VK x G Z cs nL Q J t lv st μ o1 f) (k2 : VK x G Z cs nL Q J (pc + 3) lv st μ o2 f) : VK x G Z cs nL Q J pc lv (.int y :: st) μ (if 0 < y then o1 else o2) f :=
  fun a ha H locs ls hP hl => lv_if_gt C.1 C.2.1 hd ht (fun c => k1 a (by rw [if_pos c] at ha; exact ha) H locs ls hP hl) (fun c => k2 a (by rw [if_neg c] at ha; exact ha) H locs ls hP hl)
theorem v_icgt (C : CF x G Z cc nL Ts own) {y z : Int32} {off : Int} {t : Nat} {o1 o2 : Option β} (hd : decode cc pc = .ok (.if_icmp .gt off, 3)) (ht : (pc : Int) + off = (t : Int))
    (k1 : VK x G Z cs nL Q J t lv st μ o1 f) (k2 : VK x G Z cs nL Q J (pc + 3) lv st μ o2 f) : VK x G Z cs nL Q J pc lv (.int z :: .int y :: st) μ (if z < y then o1 else o2) f :=
  fun a ha H locs ls hP hl => lv_icmp_gt C.1 C.2.1 hd ht (fun c => k1 a (by rw [if_pos c] at ha; exact ha) H locs ls hP hl) (fun c => k2 a (by rw [if_neg c] at ha; exact ha) H locs ls hP hl)
theorem v_ifle (C : CF x G Z cc nL Ts own) {y : Int32} {off : Int} {t : Nat} {o1 o2 : Option β} (hd : decode cc pc = .ok (.ifCond .le off, 3)) (ht : (pc : Int) + off = (t : Int))
    (k1 : VK x G Z cs nL Q J t lv st μ o1 f) (k2 : VK x G Z cs nL Q J (pc + 3) lv st μ o2 f) : VK x G Z cs nL Q J pc lv (.int y :: st) μ (if y ≤ 0 then o1 else o2) f :=
  fun a ha H locs ls hP hl => lv_if_le C.1 C.2.1 hd ht (fun c => k1 a (by rw [if_pos c] at ha; exact ha) H locs ls hP hl) (fun c => k2 a (by rw [if_neg c] at ha; exact ha) H locs ls hP hl)
theorem v_icle (C : CF x G Z cc nL Ts own) {y z : Int32} {off : Int} {t : Nat} {o1 o2 : Option β} (hd : decode cc pc = .ok (.if_icmp .le off, 3)) (ht : (pc : Int) + off = (t : Int))
    (k1 : VK x G Z cs nL Q J t lv st μ o1 f) (k2 : VK x G Z cs nL Q J (pc + 3) lv st μ o2 f) : VK x G Z cs nL Q J pc lv (.int z :: .int y :: st) μ (if y ≤ z then o1 else o2) f :=
  fun a ha H locs ls hP hl => lv_icmp_le C.1 C.2.1 hd ht (fun c => k1 a (by rw [if_pos c] at ha; exact ha) H locs ls hP hl) (fun c => k2 a (by rw [if_neg c] at ha; exact ha) H locs ls hP hl)
/-- division, remainder -/
def idv (y z : Int32) : Option Int32 := if z = 0 then none else some (y / z)
def irm (y z : Int32) : Option Int32 := if z = 0 then none else some (y - y / z * z)
theorem v_idiv (C : CF x G Z cc nL Ts own) {y z : Int32} {g : Int32 → Option β} (hd : decode cc pc = .ok (.idiv, 1)) (k : ∀ v, VK x G Z cs nL Q J (pc + 1) lv (.int v :: st) μ (g v) f) : VK x G Z cs nL Q J pc lv (.int z :: .int y :: st) μ ((idv y z).bind g) f := by
  intro a ha H locs ls hP hl
  unfold idv at ha
  by_cases hz : z = 0
  · rw [if_pos hz] at ha
    cases ha
  · rw [if_neg hz] at ha
    exact lv_idiv C.1 C.2.1 hd hz (k _ a ha H locs ls hP hl)
theorem v_irem (C : CF x G Z cc nL Ts own) {y z : Int32} {g : Int32 → Option β} (hd : decode cc pc = .ok (.irem, 1)) (k : ∀ v, VK x G Z cs nL Q J (pc + 1) lv (.int v :: st) μ (g v) f) : VK x G Z cs nL Q J pc lv (.int z :: .int y :: st) μ ((irm y z).bind g) f := by
  intro a ha H locs ls hP hl
  unfold irm at ha
  by_cases hz : z = 0
  · rw [if_pos hz] at ha
    cases ha
  · rw [if_neg hz] at ha
    exact lv_irem C.1 C.2.1 hd hz (k _ a ha H locs ls hP hl)
def inb (i : Int32) (n : Nat) : Bool := !(decide (i < 0)) && !(decide (n ≤ i.toNatClampNeg))
theorem inb_vp {i : Int32} {n : Nat} : inb i n = true ↔ vp_in i n := by
  unfold inb vp_in
  simp
/-- an array's place read; written -/
def ald (Z : ZT) (μ : MT) (k : Nat) (i : Int32) : Option Int32 := if inb i (zl Z k) then some (μ k i.toNatClampNeg) else none
def ast (Z : ZT) (μ : MT) (k : Nat) (i : Int32) (v : Int32) : Option MT := if inb i (zl Z k) then some (u2 μ k i.toNatClampNeg v) else none
def ard (Z : ZT) (k : Nat) (i : Int32) : Option Nat := if inb i (zl Z k) then some (zr Z k i.toNatClampNeg) else none
theorem ald_iff {Z : ZT} {μ : MT} {k : Nat} {i : Int32} {g : Int32 → Option γ} {a : γ} (h : (ald Z μ k i).bind g = some a) : vp_in i (zl Z k) ∧ g (μ k i.toNatClampNeg) = some a := by
  unfold ald at h
  by_cases hi : inb i (zl Z k) = true
  · rw [if_pos hi] at h
    exact ⟨inb_vp.mp hi, h⟩
  · rw [if_neg hi] at h
    cases h
theorem ast_iff {Z : ZT} {μ : MT} {k : Nat} {i v : Int32} {g : MT → Option γ} {a : γ} (h : (ast Z μ k i v).bind g = some a) : vp_in i (zl Z k) ∧ g (u2 μ k i.toNatClampNeg v) = some a := by
  unfold ast at h
  by_cases hi : inb i (zl Z k) = true
  · rw [if_pos hi] at h
    exact ⟨inb_vp.mp hi, h⟩
  · rw [if_neg hi] at h
    cases h
theorem ard_iff {Z : ZT} {k : Nat} {i : Int32} {g : Nat → Option γ} {a : γ} (h : (ard Z k i).bind g = some a) : vp_in i (zl Z k) ∧ g (zr Z k i.toNatClampNeg) = some a := by
  unfold ard at h
  by_cases hi : inb i (zl Z k) = true
  · rw [if_pos hi] at h
    exact ⟨inb_vp.mp hi, h⟩
  · rw [if_neg hi] at h
    cases h
theorem v_iald (C : CF x G Z cc nL Ts own) {k : Nat} {i : Int32} {g : Int32 → Option β} (hk : Oa G Z k) (hd : decode cc pc = .ok (.iaload, 1)) (kk : ∀ v, VK x G Z cs nL Q J (pc + 1) lv (.int v :: st) μ (g v) f) : VK x G Z cs nL Q J pc lv (.int i :: .ref (ga G k) :: st) μ ((ald Z μ k i).bind g) f := by
  intro a ha H locs ls hP hl
  rw [Option.bind_assoc] at ha
  obtain ⟨hi, ha⟩ := ald_iff ha
  obtain ⟨hkk, hk | ⟨h1, h2⟩⟩ := hk
  · exact va_iald C.1 C.2.1 C.2.2.2.2.2.1.1 hP.1 k 0 (by rw [wd_get hk, ce_arr hkk (by decide) (by decide)]) rfl hi hd (kk _ a ha H locs ls hP hl)
  · have hT := C.2.2.2.2.2.2.2.2.2.2 (k - 1000) (by omega)
    have hr := hP.2.2 (k - 1000) (by omega)
    have hL := C.2.2.2.2.2.2.2.2.1.2.2.2.1 (k - 1000) (by omega)
    rw [show 1000 + (k - 1000) = k by omega] at hT hr hL
    exact va_ti C.1 C.2.1 hT hP.2.1 (by rw [← hL]; exact hi) (v := .int (μ k i.toNatClampNeg)) (by rw [hr]) hd (kk _ a ha H locs ls hP hl)
theorem v_bald (C : CF x G Z cc nL Ts own) {k : Nat} {i : Int32} {g : Int32 → Option β} (hk : Ob G Z k 21) (hd : decode cc pc = .ok (.baload, 1)) (kk : ∀ v, VK x G Z cs nL Q J (pc + 1) lv (.int v :: st) μ (g v) f) : VK x G Z cs nL Q J pc lv (.int i :: .ref (ga G k) :: st) μ ((ald Z μ k i).bind g) f := by
  intro a ha H locs ls hP hl
  rw [Option.bind_assoc] at ha
  obtain ⟨hi, ha⟩ := ald_iff ha
  exact va_bald C.1 C.2.1 C.2.2.2.2.2.1.1 hP.1 k 1 (by rw [wd_get hk.2, ce_arr hk.1 (by decide) (by decide)]) rfl hi hd (kk _ a ha H locs ls hP hl)
theorem v_zald (C : CF x G Z cc nL Ts own) {k : Nat} {i : Int32} {g : Int32 → Option β} (hk : Ob G Z k 22) (hd : decode cc pc = .ok (.baload, 1)) (kk : ∀ v, VK x G Z cs nL Q J (pc + 1) lv (.int v :: st) μ (g v) f) : VK x G Z cs nL Q J pc lv (.int i :: .ref (ga G k) :: st) μ ((ald Z μ k i).bind g) f := by
  intro a ha H locs ls hP hl
  rw [Option.bind_assoc] at ha
  obtain ⟨hi, ha⟩ := ald_iff ha
  exact va_zald C.1 C.2.1 C.2.2.2.2.2.1.1 hP.1 k 2 (by rw [wd_get hk.2, ce_arr hk.1 (by decide) (by decide)]) rfl hi hd (kk _ a ha H locs ls hP hl)
theorem v_aald (C : CF x G Z cc nL Ts own) {k : Nat} {i : Int32} {g : Nat → Option β} (hk : Ob G Z k 24) (hd : decode cc pc = .ok (.aaload, 1)) (kk : ∀ v, Ob G Z v 2 → VK x G Z cs nL Q J (pc + 1) lv (.ref (ga G v) :: st) μ (g v) f) : VK x G Z cs nL Q J pc lv (.int i :: .ref (ga G k) :: st) μ ((ard Z k i).bind g) f := by
  intro a ha H locs ls hP hl
  rw [Option.bind_assoc] at ha
  obtain ⟨hi, ha⟩ := ard_iff ha
  have hlt : i.toNatClampNeg < zl Z k := Nat.not_le.mp fun q => hi (Or.inr q)
  exact va_aldq (f := fun j => some (ga G (zr Z k j))) C.1 C.2.1 C.2.2.2.2.2.1.1 hP.1 k 4 (by rw [wd_get hk.2, ce_ref hk.1 (by decide)]) rfl hi hd (kk _ (C.2.2.2.2.2.2.2.2.1.2.2.1 k _ hk hlt) a ha H locs ls hP hl)
theorem v_aaldI (C : CF x G Z cc nL Ts own) {k : Nat} {i : Int32} {g : Nat → Option β} (hk : Ob G Z k 23) (hd : decode cc pc = .ok (.aaload, 1)) (kk : ∀ v, Ob G Z v 20 → VK x G Z cs nL Q J (pc + 1) lv (.ref (ga G v) :: st) μ (g v) f) : VK x G Z cs nL Q J pc lv (.int i :: .ref (ga G k) :: st) μ ((ard Z k i).bind g) f := by
  intro a ha H locs ls hP hl
  rw [Option.bind_assoc] at ha
  obtain ⟨hi, ha⟩ := ard_iff ha
  have hlt : i.toNatClampNeg < zl Z k := Nat.not_le.mp fun q => hi (Or.inr q)
  have hw : va_at (gD G) vwCl (ga G k, .inl (gc G 23, zl Z k, .inr (.inr (.inr (.inr (fun j => some (ga G (zr Z k j)))))))) H := hP.1 k _ (by rw [wd_get hk.2, ce_ref hk.1 (by decide)])
  exact W.aald (v := .ref (ga G (zr Z k i.toNatClampNeg))) (ty := .array .int) C.1 C.2.1 hw ((C.2.2.2.2.2.1.1.2 3 _ rfl).1 (zl Z k) (fun j => va_rf (some (ga G (zr Z k j))))) rfl (fun q => by cases q) (by show ¬ (i < 0 ∨ (arrV _ _ _).slots.size ≤ _); rw [arrV_size]; exact hi) (by show (arrV _ _ _).slots[_]? = _; rw [arrV_read _ _ hlt]; rfl) rfl rfl hd (kk _ (C.2.2.2.2.2.2.2.2.1.2.1 k _ hk hlt) a ha H locs ls hP hl)
theorem v_iast (C : CF x G Z cc nL Ts own) {k : Nat} {i v : Int32} {g : MT → Option β} (hk : Ob G Z k 20) (hd : decode cc pc = .ok (.iastore, 1)) (kk : ∀ ν, VK x G Z cs nL Q J (pc + 1) lv st ν (g ν) f) : VK x G Z cs nL Q J pc lv (.int v :: .int i :: .ref (ga G k) :: st) μ ((ast Z μ k i v).bind g) f := by
  intro a ha H locs ls hP hl
  rw [Option.bind_assoc] at ha
  obtain ⟨hi, ha⟩ := ast_iff ha
  have hG := C.2.2.2.2.2.2.2.1
  refine va_iast C.1 C.2.1 C.2.2.2.2.2.1.1 hP.1 (hG.vd Z μ) hP.2.1 k 0 (by rw [wd_get hk.2, ce_arr hk.1 (by decide) (by decide)]) rfl hi hd (fun H1 locs1 hP1 _ hS1 => ?_)
  have e := wd_set (ν := u2 μ k i.toNatClampNeg v) hk.2 (by rw [ce_arr hk.1 (by decide) (by decide), u2_s]) (fun q hq => u2_n hq)
  rw [e] at hP1
  exact kk _ a ha H1 locs1 ls ⟨hP1, hS1, hP.2.2.u2 (fun q hq => u2_n (by have := hk.2; have := hG.2.2; omega))⟩ hl
theorem v_bast (C : CF x G Z cc nL Ts own) {k : Nat} {i v : Int32} {g : MT → Option β} (hk : Ob G Z k 21) (hd : decode cc pc = .ok (.bastore, 1)) (kk : ∀ ν, VK x G Z cs nL Q J (pc + 1) lv st ν (g ν) f) : VK x G Z cs nL Q J pc lv (.int v :: .int i :: .ref (ga G k) :: st) μ ((ast Z μ k i (vp_nar .byte v)).bind g) f := by
  intro a ha H locs ls hP hl
  rw [Option.bind_assoc] at ha
  obtain ⟨hi, ha⟩ := ast_iff ha
  have hG := C.2.2.2.2.2.2.2.1
  refine va_bast C.1 C.2.1 C.2.2.2.2.2.1.1 hP.1 (hG.vd Z μ) hP.2.1 k 1 (by rw [wd_get hk.2, ce_arr hk.1 (by decide) (by decide)]) rfl hi hd (fun H1 locs1 hP1 _ hS1 => ?_)
  have e := wd_set (ν := u2 μ k i.toNatClampNeg (vp_nar .byte v)) hk.2 (by rw [ce_arr hk.1 (by decide) (by decide), u2_s]) (fun q hq => u2_n hq)
  rw [e] at hP1
  exact kk _ a ha H1 locs1 ls ⟨hP1, hS1, hP.2.2.u2 (fun q hq => u2_n (by have := hk.2; have := hG.2.2; omega))⟩ hl
theorem v_zast (C : CF x G Z cc nL Ts own) {k : Nat} {i v : Int32} {g : MT → Option β} (hk : Ob G Z k 22) (hd : decode cc pc = .ok (.bastore, 1)) (kk : ∀ ν, VK x G Z cs nL Q J (pc + 1) lv st ν (g ν) f) : VK x G Z cs nL Q J pc lv (.int v :: .int i :: .ref (ga G k) :: st) μ ((ast Z μ k i (vp_nar .boolean v)).bind g) f := by
  intro a ha H locs ls hP hl
  rw [Option.bind_assoc] at ha
  obtain ⟨hi, ha⟩ := ast_iff ha
  have hG := C.2.2.2.2.2.2.2.1
  refine va_zast C.1 C.2.1 C.2.2.2.2.2.1.1 hP.1 (hG.vd Z μ) hP.2.1 k 2 (by rw [wd_get hk.2, ce_arr hk.1 (by decide) (by decide)]) rfl hi hd (fun H1 locs1 hP1 _ hS1 => ?_)
  have e := wd_set (ν := u2 μ k i.toNatClampNeg (vp_nar .boolean v)) hk.2 (by rw [ce_arr hk.1 (by decide) (by decide), u2_s]) (fun q hq => u2_n hq)
  rw [e] at hP1
  exact kk _ a ha H1 locs1 ls ⟨hP1, hS1, hP.2.2.u2 (fun q hq => u2_n (by have := hk.2; have := hG.2.2; omega))⟩ hl
theorem v_alen (C : CF x G Z cc nL Ts own) {k : Nat} (hk : Ob G Z k 20) (hd : decode cc pc = .ok (.arraylength, 1)) (kk : VK x G Z cs nL Q J (pc + 1) lv (.int (Int32.ofNat (zl Z k)) :: st) μ o f) : VK x G Z cs nL Q J pc lv (.ref (ga G k) :: st) μ o f :=
  fun a ha H locs ls hP hl => va_alen C.1 C.2.1 C.2.2.2.2.2.1.1 hP.1 k 0 (by rw [wd_get hk.2, ce_arr hk.1 (by decide) (by decide)]) rfl rfl hd (kk a ha H locs ls hP hl)
/-- a field: its class's table, its link -/
def FLk (Ts : List Cond) (own : String) (index c j : Nat) : Prop := ∃ (N : String) (T : u_T) (n : Nat), vwCl[c]? = some (N, T, n) ∧ j < n ∧ (∀ w ∈ u_ws N T n, w ∈ Ts) ∧ c < 20 ∧ Cond.fieldLink own index (T j).1 (T j).2.1 (T j).2.2.1 ∈ Ts
/-- a nest mate's field -/
def FLn (Ts : List Cond) (own : String) (index c j : Nat) : Prop := ∃ (N : String) (T : u_T) (n : Nat) (host : String), vwCl[c]? = some (N, T, n) ∧ j < n ∧ (∀ w ∈ u_ws N T n, w ∈ Ts) ∧ c < 20 ∧ Cond.fieldLinkNest own index (T j).1 (T j).2.1 (T j).2.2.1 host ∈ nestW
theorem nfl_of {c n : Nat} {N : String} {T : u_T} (h : vwCl[c]? = some (N, T, n)) : nfl c = n := by
  unfold nfl
  rw [h]
theorem v_get (C : CF x G Z cc nL Ts own) {k c j index : Nat} (hF : FLk Ts own index c j) (hk : Ob G Z k c) (hd : decode cc pc = .ok (.getfield index, 3)) (kk : VK x G Z cs nL Q J (pc + 3) lv (fv G Z μ k j :: st) μ o f) : VK x G Z cs nL Q J pc lv (.ref (ga G k) :: st) μ o f := by
  intro a ha H locs ls hP hl
  obtain ⟨N, T, n, h1, h2, h3, h4, h5⟩ := hF
  have hn := nfl_of h1
  exact va_get C.1 C.2.1 C.2.2.2.2.1 h3 C.2.2.2.1 C.2.2.2.2.2.1.1 hP.1 k (by rw [wd_get hk.2, ce_obj hk.1 h4]) h1 j h2 (C.2.2.2.2.1 _ h5) (fun _ h9 => h9) (fs_get (by rw [hn]; exact h2)) hd (kk a ha H locs ls hP hl)
theorem v_getN (C : CF x G Z cc nL Ts own) {k c j index : Nat} (hF : FLn Ts own index c j) (hk : Ob G Z k c) (hd : decode cc pc = .ok (.getfield index, 3)) (kk : VK x G Z cs nL Q J (pc + 3) lv (fv G Z μ k j :: st) μ o f) : VK x G Z cs nL Q J pc lv (.ref (ga G k) :: st) μ o f := by
  intro a ha H locs ls hP hl
  obtain ⟨N, T, n, host, h1, h2, h3, h4, h5⟩ := hF
  have hn := nfl_of h1
  exact va_getN C.1 C.2.1 C.2.2.2.2.1 h3 C.2.2.2.1 C.2.2.2.2.2.1.1 hP.1 k (by rw [wd_get hk.2, ce_obj hk.1 h4]) h1 j h2 (va_Nw.use rfl (C.2.2.2.2.2.1.2.1 _ h5)) (fun _ h9 => h9) (fs_get (by rw [hn]; exact h2)) hd (kk a ha H locs ls hP hl)
theorem fv_i {k c j : Nat} (hk : Ob G Z k c) (h : rk c j = 0) : fv G Z μ k j = .int (μ k j) := by
  unfold fv
  rw [hk.1, if_pos h]
theorem fv_r {k c j : Nat} (hk : Ob G Z k c) (h : rk c j = 1) : fv G Z μ k j = .ref (ga G (zr Z k j)) := by
  unfold fv
  rw [hk.1, if_neg (by rw [h]; decide), if_pos h]
theorem fv_m {k c j : Nat} (hk : Ob G Z k c) (h : rk c j = 2) : fv G Z μ k j = .ref (ga G (μ k j).toNatClampNeg) := by
  unfold fv
  rw [hk.1, if_neg (by rw [h]; decide), if_neg (by rw [h]; decide)]
theorem v_geti (C : CF x G Z cc nL Ts own) {k c j index : Nat} (hF : FLk Ts own index c j) (hr : rk c j = 0) (hk : Ob G Z k c) (hd : decode cc pc = .ok (.getfield index, 3)) (kk : VK x G Z cs nL Q J (pc + 3) lv (.int (μ k j) :: st) μ o f) : VK x G Z cs nL Q J pc lv (.ref (ga G k) :: st) μ o f :=
  v_get C hF hk hd (by rw [fv_i hk hr]; exact kk)
theorem v_getiN (C : CF x G Z cc nL Ts own) {k c j index : Nat} (hF : FLn Ts own index c j) (hr : rk c j = 0) (hk : Ob G Z k c) (hd : decode cc pc = .ok (.getfield index, 3)) (kk : VK x G Z cs nL Q J (pc + 3) lv (.int (μ k j) :: st) μ o f) : VK x G Z cs nL Q J pc lv (.ref (ga G k) :: st) μ o f :=
  v_getN C hF hk hd (by rw [fv_i hk hr]; exact kk)
theorem FLk.lt {index c j : Nat} (hF : FLk Ts own index c j) : c < 20 ∧ j < nfl c := by
  obtain ⟨N, T, n, h1, h2, h3, h4, h5⟩ := hF
  exact ⟨h4, by rw [nfl_of h1]; exact h2⟩
theorem FLn.lt {index c j : Nat} (hF : FLn Ts own index c j) : c < 20 ∧ j < nfl c := by
  obtain ⟨N, T, n, host, h1, h2, h3, h4, h5⟩ := hF
  exact ⟨h4, by rw [nfl_of h1]; exact h2⟩
theorem v_getr (C : CF x G Z cc nL Ts own) {k c j index t : Nat} (hF : FLk Ts own index c j) (hr : rk c j = 1) (ht : tgt c j = t) (hk : Ob G Z k c) (hd : decode cc pc = .ok (.getfield index, 3)) (kk : Ob G Z (zr Z k j) t → VK x G Z cs nL Q J (pc + 3) lv (.ref (ga G (zr Z k j)) :: st) μ o f) : VK x G Z cs nL Q J pc lv (.ref (ga G k) :: st) μ o f :=
  v_get C hF hk hd (by rw [fv_r hk hr]; exact kk (ht ▸ C.2.2.2.2.2.2.2.2.1.1 c j k hF.lt.1 hr hF.lt.2 hk))
theorem v_getrN (C : CF x G Z cc nL Ts own) {k c j index t : Nat} (hF : FLn Ts own index c j) (hr : rk c j = 1) (ht : tgt c j = t) (hk : Ob G Z k c) (hd : decode cc pc = .ok (.getfield index, 3)) (kk : Ob G Z (zr Z k j) t → VK x G Z cs nL Q J (pc + 3) lv (.ref (ga G (zr Z k j)) :: st) μ o f) : VK x G Z cs nL Q J pc lv (.ref (ga G k) :: st) μ o f :=
  v_getN C hF hk hd (by rw [fv_r hk hr]; exact kk (ht ▸ C.2.2.2.2.2.2.2.2.1.1 c j k hF.lt.1 hr hF.lt.2 hk))
/-- a field whose cell changes: the number that stands there must be a cell of the kind -/
def mrd (Z : ZT) (n t : Nat) (v : Int32) : Option Nat := if zk Z v.toNatClampNeg = t ∧ v.toNatClampNeg < n then some v.toNatClampNeg else none
theorem v_getm (C : CF x G Z cc nL Ts own) {k c j index t : Nat} {g : Nat → Option β} (hF : FLk Ts own index c j) (hr : rk c j = 2) (hk : Ob G Z k c) (hd : decode cc pc = .ok (.getfield index, 3)) (kk : ∀ q, Ob G Z q t → VK x G Z cs nL Q J (pc + 3) lv (.ref (ga G q) :: st) μ (g q) f) : VK x G Z cs nL Q J pc lv (.ref (ga G k) :: st) μ ((mrd Z (gn G) t (μ k j)).bind g) f := by
  intro a ha
  unfold mrd at ha
  by_cases h : zk Z (μ k j).toNatClampNeg = t ∧ (μ k j).toNatClampNeg < gn G
  · rw [if_pos h] at ha
    exact v_get C hF hk hd (by rw [fv_m hk hr]; exact kk _ h) a ha
  · rw [if_neg h] at ha
    cases ha
/-- a field written: its type's values -/
def FPk (Ts : List Cond) (own : String) (index c j : Nat) : Prop := FLk Ts own index c j ∧ ∃ (N : String) (T : u_T) (n : Nat) (ty : Nat → FieldType), vwCl[c]? = some (N, T, n) ∧ (∀ k, k < n → parseFieldDescriptor (T k).2.2.1 = some (ty k)) ∧ (∀ a, a < n → ∀ b, b < n → a ≠ b → (T a).2.1 ≠ (T b).2.1) ∧ (T j).2.2.2 = false ∧ ty j = fty c j
def FPn (Ts : List Cond) (own : String) (index c j : Nat) : Prop := FLn Ts own index c j ∧ ∃ (N : String) (T : u_T) (n : Nat) (ty : Nat → FieldType), vwCl[c]? = some (N, T, n) ∧ (∀ k, k < n → parseFieldDescriptor (T k).2.2.1 = some (ty k)) ∧ (∀ a, a < n → ∀ b, b < n → a ≠ b → (T a).2.1 ≠ (T b).2.1) ∧ (T j).2.2.2 = false ∧ ty j = fty c j
theorem v_put (C : CF x G Z cc nL Ts own) {k c j index : Nat} {v : Value} {y : Int32} (hF : FPk Ts own index c j) (hv : v = fv G Z (u2 μ k j y) k j) (hn : narrow (fty c j) v = v) (hf : fits (fty c j) v = true) (hk : Ob G Z k c) (hd : decode cc pc = .ok (.putfield index, 3)) (kk : VK x G Z cs nL Q J (pc + 3) lv st (u2 μ k j y) o f) : VK x G Z cs nL Q J pc lv (v :: .ref (ga G k) :: st) μ o f := by
  intro a ha H locs ls hP hl
  obtain ⟨⟨N, T, n, h1, h2, h3, h4, h5⟩, N', T', n', ty, q1, q2, q3, q4, q5⟩ := hF
  cases h1.symm.trans q1
  have hn' := nfl_of h1
  have hG := C.2.2.2.2.2.2.2.1
  refine va_put C.1 C.2.1 C.2.2.2.2.1 h3 ty q2 q3 C.2.2.2.1 C.2.2.2.2.2.1.1 hP.1 (hG.vd Z μ) hP.2.1 k (by rw [wd_get hk.2, ce_obj hk.1 h4]) h1 j h2 (C.2.2.2.2.1 _ h5) (fun _ h9 => h9) q4 (q2 j h2) (by rw [q5]; exact hn) (by rw [q5]; exact hf) (by rw [List.length_map, List.length_range, hn']; exact h2) hd (fun H1 locs1 hP1 _ hS1 => ?_)
  rw [fs_set hk.1 hv] at hP1
  have e := wd_set (ν := u2 μ k j y) hk.2 (ce_obj hk.1 h4) (fun q hq => u2_n hq)
  rw [e] at hP1
  exact kk a ha H1 locs1 ls ⟨hP1, hS1, hP.2.2.u2 (fun q hq => u2_n (by have := hk.2; have := hG.2.2; omega))⟩ hl
theorem v_putN (C : CF x G Z cc nL Ts own) {k c j index : Nat} {v : Value} {y : Int32} (hF : FPn Ts own index c j) (hv : v = fv G Z (u2 μ k j y) k j) (hn : narrow (fty c j) v = v) (hf : fits (fty c j) v = true) (hk : Ob G Z k c) (hd : decode cc pc = .ok (.putfield index, 3)) (kk : VK x G Z cs nL Q J (pc + 3) lv st (u2 μ k j y) o f) : VK x G Z cs nL Q J pc lv (v :: .ref (ga G k) :: st) μ o f := by
  intro a ha H locs ls hP hl
  obtain ⟨⟨N, T, n, host, h1, h2, h3, h4, h5⟩, N', T', n', ty, q1, q2, q3, q4, q5⟩ := hF
  cases h1.symm.trans q1
  have hn' := nfl_of h1
  have hG := C.2.2.2.2.2.2.2.1
  refine va_putN C.1 C.2.1 C.2.2.2.2.1 h3 ty q2 q3 C.2.2.2.1 C.2.2.2.2.2.1.1 hP.1 (hG.vd Z μ) hP.2.1 k (by rw [wd_get hk.2, ce_obj hk.1 h4]) h1 j h2 (va_Nw.use rfl (C.2.2.2.2.2.1.2.1 _ h5)) (fun _ h9 => h9) q4 (q2 j h2) (by rw [q5]; exact hn) (by rw [q5]; exact hf) (by rw [List.length_map, List.length_range, hn']; exact h2) hd (fun H1 locs1 hP1 _ hS1 => ?_)
  rw [fs_set hk.1 hv] at hP1
  have e := wd_set (ν := u2 μ k j y) hk.2 (ce_obj hk.1 h4) (fun q hq => u2_n hq)
  rw [e] at hP1
  exact kk a ha H1 locs1 ls ⟨hP1, hS1, hP.2.2.u2 (fun q hq => u2_n (by have := hk.2; have := hG.2.2; omega))⟩ hl
theorem u2_at {k j : Nat} {y : Int32} : u2 μ k j y k j = y := by simp [u2, upd]
theorem v_puti (C : CF x G Z cc nL Ts own) {k c j index : Nat} {y : Int32} {g : MT → Option β} (hF : FPk Ts own index c j) (hr : rk c j = 0) (ht : fty c j = .int) (hk : Ob G Z k c) (hd : decode cc pc = .ok (.putfield index, 3)) (kk : ∀ ν, VK x G Z cs nL Q J (pc + 3) lv st ν (g ν) f) : VK x G Z cs nL Q J pc lv (.int y :: .ref (ga G k) :: st) μ ((some (u2 μ k j y)).bind g) f :=
  v_put C hF (by rw [fv_i hk hr, u2_at]) (by rw [ht]; rfl) (by rw [ht]; rfl) hk hd (kk _)
theorem v_putiN (C : CF x G Z cc nL Ts own) {k c j index : Nat} {y : Int32} {g : MT → Option β} (hF : FPn Ts own index c j) (hr : rk c j = 0) (ht : fty c j = .int) (hk : Ob G Z k c) (hd : decode cc pc = .ok (.putfield index, 3)) (kk : ∀ ν, VK x G Z cs nL Q J (pc + 3) lv st ν (g ν) f) : VK x G Z cs nL Q J pc lv (.int y :: .ref (ga G k) :: st) μ ((some (u2 μ k j y)).bind g) f :=
  v_putN C hF (by rw [fv_i hk hr, u2_at]) (by rw [ht]; rfl) (by rw [ht]; rfl) hk hd (kk _)
/-- a boolean: 0 or 1 -/
def bz (y : Int32) : Option Int32 := if y = 0 ∨ y = 1 then some y else none
theorem bz_iff {y : Int32} {g : Int32 → Option γ} {a : γ} (h : (bz y).bind g = some a) : (y = 0 ∨ y = 1) ∧ g y = some a := by
  unfold bz at h
  by_cases hi : y = 0 ∨ y = 1
  · rw [if_pos hi] at h
    exact ⟨hi, h⟩
  · rw [if_neg hi] at h
    cases h
theorem v_putz (C : CF x G Z cc nL Ts own) {k c j index : Nat} {y : Int32} {g : MT → Option β} (hy : y = 0 ∨ y = 1) (hF : FPk Ts own index c j) (hr : rk c j = 0) (ht : fty c j = .boolean) (hk : Ob G Z k c) (hd : decode cc pc = .ok (.putfield index, 3)) (kk : ∀ ν, VK x G Z cs nL Q J (pc + 3) lv st ν (g ν) f) : VK x G Z cs nL Q J pc lv (.int y :: .ref (ga G k) :: st) μ ((some (u2 μ k j y)).bind g) f :=
  v_put C hF (by rw [fv_i hk hr, u2_at]) (by rw [ht]; rcases hy with rfl | rfl <;> rfl) (by rw [ht]; rcases hy with rfl | rfl <;> rfl) hk hd (kk _)
theorem v_putm (C : CF x G Z cc nL Ts own) {k c j index q : Nat} {N : String} {g : MT → Option β} (hF : FPk Ts own index c j) (hr : rk c j = 2) (ht : fty c j = .object N) (hq : q < 1000) (hk : Ob G Z k c) (hd : decode cc pc = .ok (.putfield index, 3)) (kk : ∀ ν, VK x G Z cs nL Q J (pc + 3) lv st ν (g ν) f) : VK x G Z cs nL Q J pc lv (.ref (ga G q) :: .ref (ga G k) :: st) μ ((some (u2 μ k j (Int32.ofNat q))).bind g) f :=
  v_put C hF (by rw [fv_m hk hr, u2_at]; show _ = Value.ref (ga G (nI q).toNatClampNeg); rw [nI_clamp (by omega)]) (by rw [ht]; rfl) (by rw [ht]; rfl) hk hd (kk _)
end VRULES
end
section
/-! ===== methods and calls over the plain memory ===== -/
abbrev rmd (d : Nat) : Room := { frames := d, cells := 0, slots := 0, locals := 64 * d }
def PZ (G : GT) (Z : ZT) (av : List Value) (μ : MT) : Array Value → State → Prop := va_Pc av (fun U => va_P (gD G) vwCl (wd G Z μ) U.heap ∧ KS G U ∧ KH G U U.heap ∧ KT G U U.heap ∧ ROk G μ)
def QZ (G : GT) (Z : ZT) (rv : Option Value) (ν : MT) : Array Value → State → Outcome → State → Prop := fun _ st oc t => oc = .returned rv ∧ va_P (gD G) vwCl (wd G Z ν) t.heap ∧ ROk G ν ∧ va_F (gA G) st t
def MZ (l : Launch) (G : GT) (Z : ZT) (y : MethodName) (c : ByteArray) (n : Nat) (r : Option FieldType) (d : Nat) (av : List Value) (μ : MT) (rv : Option Value) (ν : MT) : Prop := Met l y (Cond.code y c n r :: BG) (rmd d) (PZ G Z av μ) (QZ G Z rv ν) 0 0 (gA G)
def QM (x : CX) (G : GT) (Z : ZT) : Option Value → MT → State → Prop := fun rv ν => MQ (xb x) (QZ G Z rv ν) (xa x) (xs x) 0 0 (gA G)
/-- the room that is left -/
def RO (x : CX) (cs : Nat × Nat) (d : Nat) : Prop := d ≤ (xR x).frames ∧ 64 * d ≤ (xR x).locals ∧ cs.1 ≤ (xR x).cells ∧ cs.2 ≤ (xR x).slots
def isNest : Cond → Bool
  | .fieldLinkNest .. => true
  | .methodLinkNest .. => true
  | _ => false
theorem nest_all : nestW.all isNest = true := by decide +kernel
theorem nest_warm {w : Cond} (hw : isNest w = true) {s U : State} (hW : s.WarmedH U.vm) (h : va_Nw w s) : va_Nw w U := by
  cases w <;> first | exact va_Nw.warmF hW h | exact va_Nw.warmM hW h | cases hw
theorem nest_same {w : Cond} (hw : isNest w = true) {s U : State} (hv : s.vm = U.vm) (h : va_Nw w s) : va_Nw w U := by
  cases w <;> first | exact va_Nw.same rfl hv h | cases hw
theorem KS.warm {G : GT} {s U : State} (hW : s.WarmedH U.vm) (h : KS G s) : KS G U :=
  ⟨va_K.moved hW.alike h.1, fun w hw => nest_warm (List.all_eq_true.mp nest_all w hw) hW (h.2.1 w hw), fun i hi => (h.2.2 i hi).warm hW⟩
theorem KS.same {G : GT} {s U : State} (hv : U.vm = s.vm) (h : KS G s) : KS G U :=
  ⟨va_K.moved (by rw [hv]; exact Vm.Alike.refl _) h.1, fun w hw => nest_same (List.all_eq_true.mp nest_all w hw) hv.symm (h.2.1 w hw), fun i hi => vk_R.same hv (h.2.2 i hi)⟩
theorem KH.to {G : GT} {s U : State} {H H1 : Heap} (hvm : s.vm.Alike U.vm) (hq : ∀ a : Nat, a < H.size → ¬ gA G a → H1[a]? = H[a]?) (h : KH G s H) : KH G U H1 :=
  ⟨(h.1.moved hvm).kept hq, (h.2.1.moved hvm).kept hq, (h.2.2.1.moved hvm).kept hq, (h.2.2.2.1.moved hvm).kept hq, (h.2.2.2.2.1.moved hvm).kept hq, (h.2.2.2.2.2.moved hvm).kept hq⟩
theorem KT.to {G : GT} {s U : State} {H H1 : Heap} (hvm : s.vm.Alike U.vm) (hq : ∀ a : Nat, a < H.size → ¬ gA G a → H1[a]? = H[a]?) (h : KT G s H) : KT G U H1 :=
  fun i hi => ((h i hi).moved hvm).kept hq
theorem PZ.blind {G : GT} {Z : ZT} {av : List Value} {μ : MT} : FrameBlind (PZ G Z av μ) := by
  intro a U g mk h
  obtain ⟨h1, h2, h3, h4, h5, h6⟩ := h
  exact ⟨h1, h2, KS.same (s := U) (U := U.calling g mk a) rfl h3, KH.to (U := U.calling g mk a) (Vm.Alike.refl U.vm) (fun _ _ _ => rfl) h4, KT.to (U := U.calling g mk a) (Vm.Alike.refl U.vm) (fun _ _ _ => rfl) h5, h6⟩
section VCALLS
variable {α β γ : Type} {x : CX} {G : GT} {Z : ZT} {cs : Nat × Nat} {nL : Nat} {Q : Option Value → MT → State → Prop} {J : α → Option Value × MT} {pc : Nat} {lv : List (Nat × Value)} {st : List Value} {μ : MT} {o : Option β} {f : β → Option α} {cc : ByteArray} {Ts : List Cond} {own : String}
/-- a method's contract out of its walk -/
theorem v_met {l : Launch} {y : MethodName} {nL : Nat} {r : Option FieldType} {d : Nat} {av : List Value} {o : Option α} {a : α} (hG : DA G) (hZ : WT G Z) (hy : plainName y.cls = true) (hn : (lg_sl av).length ≤ nL) (ho : o = some a)
    (h : ∀ x : CX, CF x G Z cc nL BG y.cls → RO x (0, 0) d → x.2.1 = l → (xM x).sig.returnType = r → VK x G Z (0, 0) nL (QM x G Z) J 0 (lv_args 0 av) [] μ o some) : MZ l G Z y cc nL r d av μ (J a).1 (J a).2 := by
  refine Met.ofW (cc := cc) (maxL := nL) (ret := r) hy rfl ?_
  intro p e s m args below meth c s₁ B hml hv
  obtain ⟨rfl, hP, hKS, hKH, hKT, hRO⟩ := hv
  have hts := atoms_spec (ws := Cond.code y cc nL r :: BG) B.pre
  have hown : s.vm.findClass y.cls = some m.cls := findClass_of_methodNamed B.named
  have hl := lv_entry av (n := nL) hn
  rw [lg_entry_eq]
  exact h (p, l, e, (headSpec (Cond.code y cc nL r :: BG) (rmd d)).room, s, m, av.toArray, below, meth, c) ⟨B.exec, B.bytes, hml, hown, fun w hw => hts w (List.mem_cons_of_mem _ hw), hKS, hKH, hG, hZ, B.notSynchronized, hKT⟩ ⟨Nat.le_refl _, Nat.le_refl _, Nat.le_refl _, Nat.le_refl _⟩ rfl B.returns a (by rw [ob_r]; exact ho) s.heap [] _ ⟨hP, va_S.rf, hRO⟩ hl
theorem v_iret (C : CF x G Z cc nL Ts own) {v : Int32} (hr : (xM x).sig.returnType = some .int) (hd : decode cc pc = .ok (.ireturn, 1)) (ho : ∀ a, o.bind f = some a → J a = (some (.int v), μ)) : VK x G Z (0, 0) nL (QM x G Z) J pc lv [.int v] μ o f := by
  intro a ha H locs ls hP hl
  rw [ho a ha]
  exact W.iret C.1 C.2.1 hr (fun t ht hW => ⟨rfl, by rw [ht]; exact hP.1, hP.2.2, hP.2.1.F ht⟩) hP.2.1.2.2 hd (hlocks := C.2.2.2.2.2.2.2.2.2.1)
theorem v_lret (C : CF x G Z cc nL Ts own) {v : Int64} (hr : (xM x).sig.returnType = some .long) (hd : decode cc pc = .ok (.lreturn, 1)) (ho : ∀ a, o.bind f = some a → J a = (some (.long v), μ)) : VK x G Z (0, 0) nL (QM x G Z) J pc lv [.long v] μ o f := by
  intro a ha H locs ls hP hl
  rw [ho a ha]
  exact W.lret C.1 C.2.1 hr (fun t ht hW => ⟨rfl, by rw [ht]; exact hP.1, hP.2.2, hP.2.1.F ht⟩) hP.2.1.2.2 hd (hlocks := C.2.2.2.2.2.2.2.2.2.1)
theorem v_zret (C : CF x G Z cc nL Ts own) {v : Int32} (hv : v = 0 ∨ v = 1) (hr : (xM x).sig.returnType = some .boolean) (hd : decode cc pc = .ok (.ireturn, 1)) (ho : ∀ a, o.bind f = some a → J a = (some (.int v), μ)) : VK x G Z (0, 0) nL (QM x G Z) J pc lv [.int v] μ o f := by
  intro a ha H locs ls hP hl
  rw [ho a ha]
  exact W.zret C.1 C.2.1 hr (by rcases hv with rfl | rfl <;> rfl) (fun t ht hW => ⟨rfl, by rw [ht]; exact hP.1, hP.2.2, hP.2.1.F ht⟩) hP.2.1.2.2 hd (hlocks := C.2.2.2.2.2.2.2.2.2.1)
/-- a boolean that isn't a constant -/
theorem v_zretb (C : CF x G Z cc nL Ts own) {v : Int32} {g : Int32 → Option β} (hr : (xM x).sig.returnType = some .boolean) (hd : decode cc pc = .ok (.ireturn, 1)) (ho : ∀ a, (g v).bind f = some a → J a = (some (.int v), μ)) : VK x G Z (0, 0) nL (QM x G Z) J pc lv [.int v] μ ((bz v).bind g) f := by
  intro a ha H locs ls hP hl
  rw [Option.bind_assoc] at ha
  obtain ⟨hv, ha⟩ := bz_iff ha
  rw [ho a ha]
  exact W.zret C.1 C.2.1 hr (by rcases hv with rfl | rfl <;> rfl) (fun t ht hW => ⟨rfl, by rw [ht]; exact hP.1, hP.2.2, hP.2.1.F ht⟩) hP.2.1.2.2 hd (hlocks := C.2.2.2.2.2.2.2.2.2.1)
theorem v_vret (C : CF x G Z cc nL Ts own) (hr : (xM x).sig.returnType = none) (hd : decode cc pc = .ok (.return_, 1)) (ho : ∀ a, o.bind f = some a → J a = (none, μ)) : VK x G Z (0, 0) nL (QM x G Z) J pc lv [] μ o f := by
  intro a ha H locs ls hP hl
  rw [ho a ha]
  exact W.vret C.1 C.2.1 hr (fun t ht hW => ⟨rfl, by rw [ht]; exact hP.1, hP.2.2, hP.2.1.F ht⟩) hP.2.1.2.2 hd (hlocks := C.2.2.2.2.2.2.2.2.2.1)
theorem pz_pre (C : CF x G Z cc nL Ts own) {H : Heap} {locs : List Loc} (hP : PW G Z μ (xs x) H locs) {av : List Value} {U : State} (hU : U.heap = H) (hW : (xs x).WarmedH U.vm) : PZ G Z av μ av.toArray U :=
  ⟨rfl, by rw [hU]; exact hP.1, C.2.2.2.2.2.1.warm hW, by rw [hU]; exact C.2.2.2.2.2.2.1.to hW.alike hP.2.1.2.1, by rw [hU]; exact C.2.2.2.2.2.2.2.2.2.2.to hW.alike hP.2.1.2.1, hP.2.2⟩
/-- behind a call -/
theorem v_back {J' : γ → Option Value × MT} {b : γ} {g : γ → Option β} {a : α} {H : Heap} {locs : List Loc} {ls : Array Slot} {st0 : List Value} {av : Array Value} (ha : (g b).bind f = some a) (hP : PW G Z μ (xs x) H locs) (hl : lv_has ls nL lv)
    (hr : va_Run x.1 x.2.1 x.2.2.1 (xR x) (xs x) (xm x) (xa x) (xb x) (xM x) (xc x) H locs cs.1 cs.2 0 0 (F0 (xm x) pc ls st0) st (QZ G Z (J' b).1 (J' b).2 av) (gA G))
    (kk : ∀ b, VK x G Z cs nL Q J (pc + 3) lv ((J' b).1.toList ++ st) (J' b).2 (g b) f) : W x.1 x.2.1 x.2.2.1 (xR x) (xs x) (xm x) (xa x) (xb x) (xM x) (xc x) H locs cs.1 cs.2 (Q (J a).1 (J a).2) (F0 (xm x) pc ls st0) := by
  intro T hT X
  obtain ⟨v, st₀, t, T', L, h0, X', hL, e1, e2, ⟨hv, hPt, hRt, hz, hk⟩, step⟩ := hr T hT X
  cases hv
  rw [h0] at hz hk
  obtain ⟨t2, a1, b1⟩ := kk b a ha T'.heap (locs ++ L) ls ⟨by rw [e1]; exact hPt, ⟨Nat.le_trans hP.2.1.1 (by rw [e1]; exact hz), fun q h1 h2 => by rw [e1, hk q (Nat.lt_of_lt_of_le h1 hP.2.1.1) h2]; exact hP.2.1.2.1 q h1 h2, fun q hq => by
      rcases List.mem_append.mp hq with h | h
      · exact hP.2.1.2.2 q h
      · exact hL q h⟩, hRt⟩ hl T' rfl X'
  exact ⟨t2, step t2 a1, b1⟩
theorem ob_iff {oc : Option γ} {g : γ → Option β} {a : α} (h : (oc.bind g).bind f = some a) : ∃ b, oc = some b ∧ (g b).bind f = some a := by
  cases oc with
  | none => cases h
  | some b => exact ⟨b, rfl, h⟩
/-- what a call needs of the words: a method's link, its code -/
def CWv (own : String) (index : Nat) (C : String) (y : MethodName) (c : ByteArray) (n : Nat) (r : Option FieldType) (np : Nat) : Prop := (∀ w ∈ ([.methodLink own index y, .instanceMethod y, .selects C y y, .initialized C, .code y c n r] : List Cond), w ∈ BG) ∧ y.cls = C ∧ y.cls ≠ "java/lang/invoke/MethodHandle" ∧ y.cls ≠ "java/lang/invoke/VarHandle" ∧ (parseMethodDescriptor y.desc).map (fun d => d.parameters.length) = some np
def CWs (own : String) (index : Nat) (y : MethodName) (c : ByteArray) (n : Nat) (r : Option FieldType) (np : Nat) : Prop := (∀ w ∈ ([.methodLink own index y, .static y, .initialized y.cls, .code y c n r] : List Cond), w ∈ BG) ∧ y.cls ≠ "java/lang/invoke/MethodHandle" ∧ y.cls ≠ "java/lang/invoke/VarHandle" ∧ (parseMethodDescriptor y.desc).map (fun d => d.parameters.length) = some np
theorem cw_good {ws : List Cond} (h : ∀ w ∈ ws, w ∈ BG) : GoodIn BG ws := fun w hw => ⟨h w hw, good_of_word (bg_good w (h w hw))⟩
theorem v_cv (C : CF x G Z cc nL BG own) {d np : Nat} (hR : RO x cs (d + 1)) {c : Nat} {N : String} {T : u_T} {n0 : Nat} (hc : vwCl[c]? = some (N, T, n0)) {y : MethodName} {bytes : ByteArray} {n : Nat} {r : Option FieldType} {index : Nat} (cw : CWv own index N y bytes n r np) (hn40 : n ≤ 40) {J' : γ → Option Value × MT} {k : Nat} (hk : Ob G Z k c) (hc20 : c < 20) {av : List Value} (hnp : av.length = np) {oc : Option γ} {g : γ → Option β}
    (hM : ∀ b, oc = some b → MZ x.2.1 G Z y bytes n r d (.ref (ga G k) :: av) μ (J' b).1 (J' b).2) (hst : (st.map fun v => v.category).sum ≤ 8) (hd : decode cc pc = .ok (.invokevirtual index, 3))
    (kk : ∀ b, VK x G Z cs nL Q J (pc + 3) lv ((J' b).1.toList ++ st) (J' b).2 (g b) f) {st0 : List Value} (hs : st0 = av.reverse ++ .ref (ga G k) :: st) : VK x G Z cs nL Q J pc lv st0 μ (oc.bind g) f := by
  subst hs
  intro a ha H locs ls hP hl
  obtain ⟨b, hb, ha⟩ := ob_iff ha
  have hG : GoodIn BG (wsV own index N y (Cond.code y bytes n r :: BG)) := cw_good (fun w hw => by
    rcases List.mem_append.mp hw with h | h
    · simp only [List.mem_cons, List.not_mem_nil, or_false] at h
      exact cw.1 w (by rcases h with h | h | h | h <;> simp [h])
    · rcases List.mem_cons.mp h with rfl | h
      · exact cw.1 _ (by simp)
      · exact h)
  have hR' := hR
  obtain ⟨r1, r2, r3, r4⟩ := hR'
  exact v_back ha hP hl (va_runV (As := av) (rest := st) ⟨C.1, C.2.1, C.2.2.1, C.2.2.2.1, C.2.2.2.2.1⟩ (hM b hb) (cwV np C.2.2.2.2.1 hG rfl rfl rfl cw.2 ⟨by show d + 1 ≤ _; exact r1, by show 8 + (n + 11) + 64 * d ≤ _; omega⟩) ⟨PZ.blind, va_recv C.2.2.2.2.2.1.1 hP.1 hc (q0 := k) (by rw [wd_get hk.2, ce_obj hk.1 hc20]), fun U hU hW => pz_pre C hP hU hW⟩ rfl hnp hl.1 rfl (lv_room hst) hd ⟨by show _ + 0 ≤ _; exact r3, by show _ + 0 ≤ _; exact r4⟩) kk
theorem v_cs (C : CF x G Z cc nL BG own) {d np : Nat} (hR : RO x cs (d + 1)) {y : MethodName} {bytes : ByteArray} {n : Nat} {r : Option FieldType} {index : Nat} (cw : CWs own index y bytes n r np) (hn40 : n ≤ 40) {J' : γ → Option Value × MT} {av : List Value} (hnp : av.length = np) {oc : Option γ} {g : γ → Option β}
    (hM : ∀ b, oc = some b → MZ x.2.1 G Z y bytes n r d av μ (J' b).1 (J' b).2) (hst : (st.map fun v => v.category).sum ≤ 8) (hd : decode cc pc = .ok (.invokestatic index, 3))
    (kk : ∀ b, VK x G Z cs nL Q J (pc + 3) lv ((J' b).1.toList ++ st) (J' b).2 (g b) f) {st0 : List Value} (hs : st0 = av.reverse ++ st) : VK x G Z cs nL Q J pc lv st0 μ (oc.bind g) f := by
  subst hs
  intro a ha H locs ls hP hl
  obtain ⟨b, hb, ha⟩ := ob_iff ha
  have hG : GoodIn BG (va_wsS own index y (Cond.code y bytes n r :: BG)) := cw_good (fun w hw => by
    rcases List.mem_append.mp hw with h | h
    · simp only [List.mem_cons, List.not_mem_nil, or_false] at h
      exact cw.1 w (by rcases h with h | h | h <;> simp [h])
    · rcases List.mem_cons.mp h with rfl | h
      · exact cw.1 _ (by simp)
      · exact h)
  have hR' := hR
  obtain ⟨r1, r2, r3, r4⟩ := hR'
  exact v_back ha hP hl (va_runS (As := av) (rest := st) ⟨C.1, C.2.1, C.2.2.1, C.2.2.2.1, C.2.2.2.2.1⟩ (hM b hb) (va_cwS np C.2.2.2.2.1 hG rfl rfl rfl cw.2 ⟨by show d + 1 ≤ _; exact r1, by show 8 + (n + 11) + 64 * d ≤ _; omega⟩) ⟨PZ.blind, fun U hU hW => pz_pre C hP hU hW⟩ rfl hnp hl.1 rfl (lv_room hst) hd ⟨by show _ + 0 ≤ _; exact r3, by show _ + 0 ≤ _; exact r4⟩) kk
/-- a loop: a body that goes on or leaves -/
def loop {σ τ : Type} (body : σ → Option (σ ⊕ τ)) : Nat → σ → Option τ
  | 0, _ => none
  | n + 1, s => (body s).bind (fun q => match q with
    | .inl s' => loop body n s'
    | .inr t => some t)
theorem v_loop {σ τ : Type} {body : σ → Option (σ ⊕ τ)} {F : τ → Option α} {P : σ → List (Nat × Value)} {S : σ → List Value} {M : σ → MT}
    (h : ∀ X : σ → Option α, (∀ s, VK x G Z cs nL Q J pc (P s) (S s) (M s) (X s) some) → ∀ s, VK x G Z cs nL Q J pc (P s) (S s) (M s) (body s) (fun q => match q with
      | .inl s' => X s'
      | .inr t => F t)) : ∀ (N : Nat) (s : σ), VK x G Z cs nL Q J pc (P s) (S s) (M s) (loop body N s) F := by
  intro N
  induction N with
  | zero =>
    intro s a ha
    cases ha
  | succ N ih =>
    intro s a ha
    refine h (fun s => (loop body N s).bind F) (fun s a ha => ih s a (by rw [ob_r] at ha; exact ha)) s a ?_
    rw [← ha]
    show _ = ((body s).bind _).bind F
    rw [Option.bind_assoc]
    congr 1
    funext q
    cases q <;> rfl
end VCALLS
end
section
/-! ===== calls by what they answer; statics; switches; System.arraycopy ===== -/
theorem RO.le {x : CX} {cs : Nat × Nat} {d d' : Nat} (h : RO x cs d) (hd : d' ≤ d) : RO x cs d' := by
  obtain ⟨h1, h2, h3, h4⟩ := h
  exact ⟨Nat.le_trans hd h1, by omega, h3, h4⟩
section ROC
variable {p : Program} {l : Launch} {e : Env} {R : Room} {s : State} {m : MethodId} {args : Array Value} {below : List Frame} {meth : Method} {c : Code} {H : Heap} {locs : List Loc} {cells slots : Nat} {Q : State → Prop}
variable {cc : ByteArray} {pc : Nat} {ls : Array Slot} {rest : List Value} {D : va_G} {cl : List vw_C} {A : Nat → Prop} {a : Nat} {tys : List (ClassId × FieldType)} {ws : va_W} {H0 : Heap}
theorem rocopy {cc : ByteArray} (hexec : p.tables.exec = Jvm.exec) (hb : c.code = cc) (hml : c.maxLocals = ls.size) {own : String} {index : Nat} (hown : s.vm.findClass own = some m.cls) (hlink : (Cond.methodLink own index arraycopyName).before args s = true) (hnat : (Cond.native arraycopyName).before args s = true) (hstat : (Cond.static arraycopyName).before args s = true) (hini : (Cond.initialized "java/lang/System").before args s = true)
    (hK : va_K D cl tys s) (hP : va_P D cl ws H) (hD : va_D A ws) (hS : va_S A s.heap H locs) {b0 n0 : Nat} {f : Nat → Int32} (hX : va_T .int b0 n0 (fun j => .int (f j)) A s s.heap) (q1 t1 : Nat) {c1 : ClassId} {n1 : Nat} {g : Nat → Int32} (ha1 : ws[q1]? = some (a, .inl (c1, n1, .inl g))) (ht1 : tys[t1]? = some (c1, .int))
    {sp dp n : Int32} (h1 : ¬ sp < 0) (h2 : ¬ dp < 0) (h3 : ¬ n < 0) (h4 : sp.toNatClampNeg + n.toNatClampNeg ≤ n0) (h5 : dp.toNatClampNeg + n.toNatClampNeg ≤ n1)
    (hframes : 1 ≤ R.frames) (hlocals : (rest.map fun v => v.category).sum + (nativeFrameWords "java/lang/System" "arraycopy" 5 + 11) ≤ R.locals) (hdg : decode cc pc = .ok (.invokestatic index, 3))
    (kk : ∀ (H1 : Heap) (locs1 : List Loc), va_P D cl (ws.set q1 (a, .inl (c1, n1, .inl (va_cpy f g sp.toNatClampNeg dp.toNatClampNeg n.toNatClampNeg)))) H1 → va_D A (ws.set q1 (a, .inl (c1, n1, .inl (va_cpy f g sp.toNatClampNeg dp.toNatClampNeg n.toNatClampNeg)))) → va_S A s.heap H1 locs1 → W p l e R s m args below meth c H1 locs1 cells slots Q (F0 m (pc + 3) ls rest)) : W p l e R s m args below meth c H locs cells slots Q (F0 m pc ls (.int n :: .int dp :: .ref a :: .int sp :: .ref b0 :: rest)) := by
  have nn : ∀ z : Int32, ¬ z < 0 → z.toInt = (z.toNatClampNeg : Int) := by
    intro z hz
    have hz0 : (0 : Int) ≤ z.toInt := by
      have := Int32.not_lt.mp hz
      simpa using Int32.le_iff_toInt_le.mp this
    show z.toInt = ((z.toInt.toNat : Nat) : Int)
    omega
  intro T hT X
  obtain ⟨scr, hs1, hs2, hs3, hs4, -, hs5, hbA⟩ := hX
  have hbl : b0 < s.heap.size := (Array.getElem?_eq_some_iff.mp hs1).1
  have hc0 : H[b0]? = some scr := by rw [hS.2.1 b0 hbl hbA]; exact hs1
  have hc1 : H[a]? = some (vp_cell c1 (n1, .inl g)) := hP q1 _ ha1
  obtain ⟨hs6, k0, hk0, cm0, hkk0⟩ := hs2
  obtain ⟨-, k1, hk1, cm1, hkk1⟩ := (hK.2 t1 _ ht1).1 n1 (fun j => .int (g j))
  obtain ⟨vm', X', step⟩ := X.arraycopy hexec hown hlink hnat hstat hini (src := b0) (dst := a) (cs := scr) (cd := vp_cell c1 (n1, .inl g)) (srcPos := sp) (destPos := dp) (n := n) (by rw [hT]; exact hc0) (by rw [hT]; exact hc1)
    hs6 (fun _ h => by cases h) hs3 (fun h => by cases h) hk0 hk1 hkk0 hkk1 (by simp [refKind]) h1 h2 h3
    (by rw [nn sp h1, nn n h3]; omega)
    (by rw [nn dp h2, nn n h3]; show ¬ _ > ((arrV c1 n1 (fun j => .int (g j))).slots.size : Int); rw [arrV_size]; omega)
    (fun vm₁ _ i hi => by
      have e : scr.slots.getD (sp.toNatClampNeg + i) .null = .int (f (sp.toNatClampNeg + i)) := by
        rw [Array.getD_eq_getD_getElem?, hs5 _ (by omega)]
        rfl
      refine ⟨?_, ?_⟩
      · rw [e]
        rfl
      · rw [e]
        exact trivial)
    (g := F0 m pc ls (.int n :: .int dp :: .ref a :: .int sp :: .ref b0 :: rest)) rfl (by rw [hml]) (rest := rest) rfl (by rw [hb]; exact hdg) hframes (by show 2 * 0 + _ + _ ≤ _; omega)
  have e1 : copied scr (vp_cell c1 (n1, .inl g)) sp dp n = vp_cell c1 (n1, .inl (va_cpy f g sp.toNatClampNeg dp.toNatClampNeg n.toNatClampNeg)) := va_copiedX (fun z => .int z) scr c1 f g hs5 h4
  rw [e1] at X' step
  have hl : a < H.size := (Array.getElem?_eq_some_iff.mp hc1).1
  have hheap : ((T.setVm vm').setCell a (vp_cell c1 (n1, .inl (va_cpy f g sp.toNatClampNeg dp.toNatClampNeg n.toNatClampNeg)))).heap = H.setIfInBounds a (vp_cell c1 (n1, .inl (va_cpy f g sp.toNatClampNeg dp.toNatClampNeg n.toNatClampNeg))) := by rw [← hT]; rfl
  have oq : ∀ q : Nat, q ≠ a → (H.setIfInBounds a (vp_cell c1 (n1, .inl (va_cpy f g sp.toNatClampNeg dp.toNatClampNeg n.toNatClampNeg))))[q]? = H[q]? := fun q hq => by simp [Array.getElem?_setIfInBounds, Ne.symm hq]
  obtain ⟨t, a1, b1⟩ := kk _ _ (hP.set hD ha1 (show (H.setIfInBounds a _)[a]? = some _ by simp [Array.getElem?_setIfInBounds, hl]) oq) (hD.set ha1) ⟨by simp; exact hS.1, fun q g1 g2 => by
      rw [oq q (fun e => g2 (by rw [e]; exact hD.2 q1 _ ha1))]
      exact hS.2.1 q g1 g2, fun q hq => by
      rcases List.mem_append.mp hq with h | h
      · exact hS.2.2 q h
      · obtain ⟨z, -, hz⟩ := List.mem_map.mp h
        rw [← hz]
        exact hD.2 q1 _ ha1⟩ _ hheap X'
  exact ⟨t, step t a1, b1⟩
end ROC
section VMORE
variable {α β γ : Type} {x : CX} {G : GT} {Z : ZT} {cs : Nat × Nat} {nL : Nat} {Q : Option Value → MT → State → Prop} {J : α → Option Value × MT} {pc : Nat} {lv : List (Nat × Value)} {st : List Value} {μ : MT} {o : Option β} {f : β → Option α} {cc : ByteArray} {Ts : List Cond} {own : String}
theorem v_fin (h : VK x G Z cs nL Q J pc lv st μ o f) : VK x G Z cs nL Q J pc lv st μ (o.bind f) some := by
  intro a ha
  rw [ob_r] at ha
  exact h a ha
theorem v_cvRi (C : CF x G Z cc nL BG own) {d np : Nat} (hR : RO x cs (d + 1)) {c : Nat} {N : String} {T : u_T} {n0 : Nat} (hc : vwCl[c]? = some (N, T, n0)) {y : MethodName} {bytes : ByteArray} {n : Nat} {rt : Option FieldType} {index : Nat} (cw : CWv own index N y bytes n rt np) (hn40 : n ≤ 40) {k : Nat} (hk : Ob G Z k c) (hc20 : c < 20) (av : List Value) (hnp : av.length = np) {oc : Option Int32} {g : Int32 → Option β}
    (hM : ∀ r : Int32, oc = some r → MZ x.2.1 G Z y bytes n rt d (.ref (ga G k) :: av) μ (some (.int r)) μ) (hst : (st.map fun v => v.category).sum ≤ 8) (hd : decode cc pc = .ok (.invokevirtual index, 3)) {st0 : List Value} (hs : st0 = av.reverse ++ .ref (ga G k) :: st)
    (kk : ∀ r, VK x G Z cs nL Q J (pc + 3) lv (.int r :: st) μ (g r) f) : VK x G Z cs nL Q J pc lv st0 μ (oc.bind g) f :=
  v_cv C hR hc cw hn40 (J' := fun r : Int32 => (some (.int r), μ)) hk hc20 hnp hM hst hd (fun b => kk b) hs
theorem v_csRi (C : CF x G Z cc nL BG own) {d np : Nat} (hR : RO x cs (d + 1)) {y : MethodName} {bytes : ByteArray} {n : Nat} {rt : Option FieldType} {index : Nat} (cw : CWs own index y bytes n rt np) (hn40 : n ≤ 40) (av : List Value) (hnp : av.length = np) {oc : Option Int32} {g : Int32 → Option β}
    (hM : ∀ r : Int32, oc = some r → MZ x.2.1 G Z y bytes n rt d av μ (some (.int r)) μ) (hst : (st.map fun v => v.category).sum ≤ 8) (hd : decode cc pc = .ok (.invokestatic index, 3)) {st0 : List Value} (hs : st0 = av.reverse ++ st)
    (kk : ∀ r, VK x G Z cs nL Q J (pc + 3) lv (.int r :: st) μ (g r) f) : VK x G Z cs nL Q J pc lv st0 μ (oc.bind g) f :=
  v_cs C hR cw hn40 (J' := fun r : Int32 => (some (.int r), μ)) hnp hM hst hd (fun b => kk b) hs
theorem v_cvRl (C : CF x G Z cc nL BG own) {d np : Nat} (hR : RO x cs (d + 1)) {c : Nat} {N : String} {T : u_T} {n0 : Nat} (hc : vwCl[c]? = some (N, T, n0)) {y : MethodName} {bytes : ByteArray} {n : Nat} {rt : Option FieldType} {index : Nat} (cw : CWv own index N y bytes n rt np) (hn40 : n ≤ 40) {k : Nat} (hk : Ob G Z k c) (hc20 : c < 20) (av : List Value) (hnp : av.length = np) {oc : Option Int64} {g : Int64 → Option β}
    (hM : ∀ r : Int64, oc = some r → MZ x.2.1 G Z y bytes n rt d (.ref (ga G k) :: av) μ (some (.long r)) μ) (hst : (st.map fun v => v.category).sum ≤ 8) (hd : decode cc pc = .ok (.invokevirtual index, 3)) {st0 : List Value} (hs : st0 = av.reverse ++ .ref (ga G k) :: st)
    (kk : ∀ r, VK x G Z cs nL Q J (pc + 3) lv (.long r :: st) μ (g r) f) : VK x G Z cs nL Q J pc lv st0 μ (oc.bind g) f :=
  v_cv C hR hc cw hn40 (J' := fun r : Int64 => (some (.long r), μ)) hk hc20 hnp hM hst hd (fun b => kk b) hs
theorem v_csRl (C : CF x G Z cc nL BG own) {d np : Nat} (hR : RO x cs (d + 1)) {y : MethodName} {bytes : ByteArray} {n : Nat} {rt : Option FieldType} {index : Nat} (cw : CWs own index y bytes n rt np) (hn40 : n ≤ 40) (av : List Value) (hnp : av.length = np) {oc : Option Int64} {g : Int64 → Option β}
    (hM : ∀ r : Int64, oc = some r → MZ x.2.1 G Z y bytes n rt d av μ (some (.long r)) μ) (hst : (st.map fun v => v.category).sum ≤ 8) (hd : decode cc pc = .ok (.invokestatic index, 3)) {st0 : List Value} (hs : st0 = av.reverse ++ st)
    (kk : ∀ r, VK x G Z cs nL Q J (pc + 3) lv (.long r :: st) μ (g r) f) : VK x G Z cs nL Q J pc lv st0 μ (oc.bind g) f :=
  v_cs C hR cw hn40 (J' := fun r : Int64 => (some (.long r), μ)) hnp hM hst hd (fun b => kk b) hs
theorem v_cvIi (C : CF x G Z cc nL BG own) {d np : Nat} (hR : RO x cs (d + 1)) {c : Nat} {N : String} {T : u_T} {n0 : Nat} (hc : vwCl[c]? = some (N, T, n0)) {y : MethodName} {bytes : ByteArray} {n : Nat} {rt : Option FieldType} {index : Nat} (cw : CWv own index N y bytes n rt np) (hn40 : n ≤ 40) {k : Nat} (hk : Ob G Z k c) (hc20 : c < 20) (av : List Value) (hnp : av.length = np) {oc : Option (Int32 × MT)} {g : (Int32 × MT) → Option β}
    (hM : ∀ q : Int32 × MT, oc = some q → MZ x.2.1 G Z y bytes n rt d (.ref (ga G k) :: av) μ (some (.int q.1)) q.2) (hst : (st.map fun v => v.category).sum ≤ 8) (hd : decode cc pc = .ok (.invokevirtual index, 3)) {st0 : List Value} (hs : st0 = av.reverse ++ .ref (ga G k) :: st)
    (kk : ∀ r ν, VK x G Z cs nL Q J (pc + 3) lv (.int r :: st) ν (g (r, ν)) f) : VK x G Z cs nL Q J pc lv st0 μ (oc.bind g) f :=
  v_cv C hR hc cw hn40 (J' := fun q : Int32 × MT => (some (.int q.1), q.2)) hk hc20 hnp hM hst hd (fun b => kk b.1 b.2) hs
theorem v_csIi (C : CF x G Z cc nL BG own) {d np : Nat} (hR : RO x cs (d + 1)) {y : MethodName} {bytes : ByteArray} {n : Nat} {rt : Option FieldType} {index : Nat} (cw : CWs own index y bytes n rt np) (hn40 : n ≤ 40) (av : List Value) (hnp : av.length = np) {oc : Option (Int32 × MT)} {g : (Int32 × MT) → Option β}
    (hM : ∀ q : Int32 × MT, oc = some q → MZ x.2.1 G Z y bytes n rt d av μ (some (.int q.1)) q.2) (hst : (st.map fun v => v.category).sum ≤ 8) (hd : decode cc pc = .ok (.invokestatic index, 3)) {st0 : List Value} (hs : st0 = av.reverse ++ st)
    (kk : ∀ r ν, VK x G Z cs nL Q J (pc + 3) lv (.int r :: st) ν (g (r, ν)) f) : VK x G Z cs nL Q J pc lv st0 μ (oc.bind g) f :=
  v_cs C hR cw hn40 (J' := fun q : Int32 × MT => (some (.int q.1), q.2)) hnp hM hst hd (fun b => kk b.1 b.2) hs
theorem v_cvIv (C : CF x G Z cc nL BG own) {d np : Nat} (hR : RO x cs (d + 1)) {c : Nat} {N : String} {T : u_T} {n0 : Nat} (hc : vwCl[c]? = some (N, T, n0)) {y : MethodName} {bytes : ByteArray} {n : Nat} {rt : Option FieldType} {index : Nat} (cw : CWv own index N y bytes n rt np) (hn40 : n ≤ 40) {k : Nat} (hk : Ob G Z k c) (hc20 : c < 20) (av : List Value) (hnp : av.length = np) {oc : Option MT} {g : MT → Option β}
    (hM : ∀ ν : MT, oc = some ν → MZ x.2.1 G Z y bytes n rt d (.ref (ga G k) :: av) μ none ν) (hst : (st.map fun v => v.category).sum ≤ 8) (hd : decode cc pc = .ok (.invokevirtual index, 3)) {st0 : List Value} (hs : st0 = av.reverse ++ .ref (ga G k) :: st)
    (kk : ∀ ν, VK x G Z cs nL Q J (pc + 3) lv (st) ν (g ν) f) : VK x G Z cs nL Q J pc lv st0 μ (oc.bind g) f :=
  v_cv C hR hc cw hn40 (J' := fun ν : MT => (none, ν)) hk hc20 hnp hM hst hd (fun b => kk b) hs
theorem v_csIv (C : CF x G Z cc nL BG own) {d np : Nat} (hR : RO x cs (d + 1)) {y : MethodName} {bytes : ByteArray} {n : Nat} {rt : Option FieldType} {index : Nat} (cw : CWs own index y bytes n rt np) (hn40 : n ≤ 40) (av : List Value) (hnp : av.length = np) {oc : Option MT} {g : MT → Option β}
    (hM : ∀ ν : MT, oc = some ν → MZ x.2.1 G Z y bytes n rt d av μ none ν) (hst : (st.map fun v => v.category).sum ≤ 8) (hd : decode cc pc = .ok (.invokestatic index, 3)) {st0 : List Value} (hs : st0 = av.reverse ++ st)
    (kk : ∀ ν, VK x G Z cs nL Q J (pc + 3) lv (st) ν (g ν) f) : VK x G Z cs nL Q J pc lv st0 μ (oc.bind g) f :=
  v_cs C hR cw hn40 (J' := fun ν : MT => (none, ν)) hnp hM hst hd (fun b => kk b) hs
theorem v_gets (C : CF x G Z cc nL BG own) {k : Nat} {N n d : String} {index : Nat} (hz : va_Z N n d (.ref (ga G k)) (gA G) (xs x) (xs x).heap) (hl : Cond.fieldLink own index N n d ∈ BG) (hd : decode cc pc = .ok (.getstatic index, 3)) (kk : VK x G Z cs nL Q J (pc + 3) lv (.ref (ga G k) :: st) μ o f) : VK x G Z cs nL Q J pc lv st μ o f :=
  fun a ha H locs ls hP hl2 => va_gets C.1 C.2.1 hz hP.2.1 C.2.2.2.1 (C.2.2.2.2.1 _ hl) (fun _ h => h) hd (kk a ha H locs ls hP hl2)
theorem v_getsN (C : CF x G Z cc nL BG own) {k : Nat} {N n d host : String} {index : Nat} (hz : va_Z N n d (.ref (ga G k)) (gA G) (xs x) (xs x).heap) (hl : Cond.fieldLinkNest own index N n d host ∈ nestW) (hd : decode cc pc = .ok (.getstatic index, 3)) (kk : VK x G Z cs nL Q J (pc + 3) lv (.ref (ga G k) :: st) μ o f) : VK x G Z cs nL Q J pc lv st μ o f :=
  fun a ha H locs ls hP hl2 => va_getsN C.1 C.2.1 hz hP.2.1 C.2.2.2.1 (va_Nw.use rfl (C.2.2.2.2.2.1.2.1 _ hl)) (fun _ h => h) hd (kk a ha H locs ls hP hl2)
theorem v_tin (C : CF x G Z cc nL Ts own) {y k : Int32} {dflt lo hi off : Int} {offs : Array Int} {len t : Nat} (hy : y = k) (hd : decode cc pc = .ok (.tableswitch dflt lo hi offs, len)) (h1 : ¬ k.toInt < lo) (h2 : ¬ hi < k.toInt) (ho : offs[(k.toInt - lo).toNat]? = some off) (ht : (pc : Int) + off = (t : Int)) (kk : VK x G Z cs nL Q J t lv st μ o f) : VK x G Z cs nL Q J pc lv (.int y :: st) μ o f := by
  subst hy
  exact fun a ha H locs ls hP hl => lv_tableIn C.1 C.2.1 hd h1 h2 ho ht (kk a ha H locs ls hP hl)
theorem v_tout (C : CF x G Z cc nL Ts own) {y : Int32} {dflt lo hi : Int} {offs : Array Int} {len t : Nat} (hd : decode cc pc = .ok (.tableswitch dflt lo hi offs, len)) (h : y.toInt < lo ∨ hi < y.toInt) (ht : (pc : Int) + dflt = (t : Int)) (kk : VK x G Z cs nL Q J t lv st μ o f) : VK x G Z cs nL Q J pc lv (.int y :: st) μ o f :=
  fun a ha H locs ls hP hl => lv_tableOut C.1 C.2.1 hd h ht (kk a ha H locs ls hP hl)
theorem v_look (C : CF x G Z cc nL Ts own) {y : Int32} {dflt off : Int} {ps : Array (Int × Int)} {len t : Nat} (hd : decode cc pc = .ok (.lookupswitch dflt ps, len)) (hp : (ps.toList.zip (ps.toList.drop 1)).all (fun (a, next) => a.1 < next.1) = true) (ho : Op.lookupswitch.offset ps.toList dflt y.toInt = off) (ht : (pc : Int) + off = (t : Int)) (kk : VK x G Z cs nL Q J t lv st μ o f) : VK x G Z cs nL Q J pc lv (.int y :: st) μ o f :=
  fun a ha H locs ls hP hl => lv_lookup C.1 C.2.1 hd hp ho ht (kk a ha H locs ls hP hl)
/-- System.arraycopy between rows of ints -/
def acp (Z : ZT) (μ : MT) (k : Nat) (sp : Int32) (k1 : Nat) (dp n : Int32) : Option MT := if ¬ sp < 0 ∧ ¬ dp < 0 ∧ ¬ n < 0 ∧ sp.toNatClampNeg + n.toNatClampNeg ≤ zl Z k ∧ dp.toNatClampNeg + n.toNatClampNeg ≤ zl Z k1 then some (u1 μ k1 (va_cpy (μ k) (μ k1) sp.toNatClampNeg dp.toNatClampNeg n.toNatClampNeg)) else none
theorem acp_iff {k k1 : Nat} {sp dp n : Int32} {g : MT → Option γ} {a : γ} (h : (acp Z μ k sp k1 dp n).bind g = some a) : (¬ sp < 0 ∧ ¬ dp < 0 ∧ ¬ n < 0 ∧ sp.toNatClampNeg + n.toNatClampNeg ≤ zl Z k ∧ dp.toNatClampNeg + n.toNatClampNeg ≤ zl Z k1) ∧ g (u1 μ k1 (va_cpy (μ k) (μ k1) sp.toNatClampNeg dp.toNatClampNeg n.toNatClampNeg)) = some a := by
  unfold acp at h
  by_cases hi : ¬ sp < 0 ∧ ¬ dp < 0 ∧ ¬ n < 0 ∧ sp.toNatClampNeg + n.toNatClampNeg ≤ zl Z k ∧ dp.toNatClampNeg + n.toNatClampNeg ≤ zl Z k1
  · rw [if_pos hi] at h
    exact ⟨hi, h⟩
  · rw [if_neg hi] at h
    cases h
def cpyW (own : String) (index : Nat) : Prop := ∀ w ∈ ([.methodLink own index arraycopyName, .native arraycopyName, .static arraycopyName, .initialized "java/lang/System"] : List Cond), w ∈ BG
theorem v_copy (C : CF x G Z cc nL BG own) (hR : RO x cs 1) {index k k1 : Nat} {sp dp n : Int32} {g : MT → Option β} (hw : cpyW own index) (hk : Oa G Z k) (hk1 : Ob G Z k1 20) (hst : (st.map fun v => v.category).sum ≤ 8) (hd : decode cc pc = .ok (.invokestatic index, 3))
    (kk : ∀ ν, VK x G Z cs nL Q J (pc + 3) lv st ν (g ν) f) : VK x G Z cs nL Q J pc lv (.int n :: .int dp :: .ref (ga G k1) :: .int sp :: .ref (ga G k) :: st) μ ((acp Z μ k sp k1 dp n).bind g) f := by
  intro a ha H locs ls hP hl
  rw [Option.bind_assoc] at ha
  obtain ⟨⟨h1, h2, h3, h4, h5⟩, ha⟩ := acp_iff ha
  have hts := C.2.2.2.2.1
  have hG := C.2.2.2.2.2.2.2.1
  have hml : (xc x).maxLocals = ls.size := by rw [C.2.2.1, hl.1]
  obtain ⟨r1, r2, r3, r4⟩ := hR
  have hloc : (st.map fun v => v.category).sum + (nativeFrameWords "java/lang/System" "arraycopy" 5 + 11) ≤ (xR x).locals := by
    have e : nativeFrameWords "java/lang/System" "arraycopy" 5 + 11 ≤ 56 := by decide +kernel
    omega
  have go : ∀ (H1 : Heap) (locs1 : List Loc), va_P (gD G) vwCl ((wd G Z μ).set k1 (ga G k1, .inl (gc G 20, zl Z k1, .inl (va_cpy (μ k) (μ k1) sp.toNatClampNeg dp.toNatClampNeg n.toNatClampNeg)))) H1 → va_D (gA G) ((wd G Z μ).set k1 (ga G k1, .inl (gc G 20, zl Z k1, .inl (va_cpy (μ k) (μ k1) sp.toNatClampNeg dp.toNatClampNeg n.toNatClampNeg)))) → va_S (gA G) (xs x).heap H1 locs1 → W x.1 x.2.1 x.2.2.1 (xR x) (xs x) (xm x) (xa x) (xb x) (xM x) (xc x) H1 locs1 cs.1 cs.2 (Q (J a).1 (J a).2) (F0 (xm x) (pc + 3) ls st) := by
    intro H1 locs1 hP1 _ hS1
    have e := wd_set (ν := u1 μ k1 (va_cpy (μ k) (μ k1) sp.toNatClampNeg dp.toNatClampNeg n.toNatClampNeg)) hk1.2 (by rw [ce_arr hk1.1 (by decide) (by decide), u1_s]) (fun q hq => u1_n hq)
    rw [e] at hP1
    exact kk _ a ha H1 locs1 ls ⟨hP1, hS1, hP.2.2.u2 (fun q hq => u1_n (by have := hk1.2; have := hG.2.2; omega))⟩ hl
  obtain ⟨hkk, hk | ⟨g1, g2⟩⟩ := hk
  · exact va_copyi C.1 C.2.1 hml C.2.2.2.1 (hts _ (hw _ (by simp))) (hts _ (hw _ (by simp))) (hts _ (hw _ (by simp))) (hts _ (hw _ (by simp))) C.2.2.2.2.2.1.1 hP.1 (hG.vd Z μ) hP.2.1 k k1 0 0 (by rw [wd_get hk, ce_arr hkk (by decide) (by decide)]) (by rw [wd_get hk1.2, ce_arr hk1.1 (by decide) (by decide)]) rfl rfl rfl h1 h2 h3 h4 h5 (fun i _ => rfl) r1 hloc hd go
  · have hT := C.2.2.2.2.2.2.2.2.2.2 (k - 1000) (by omega)
    have hr := hP.2.2 (k - 1000) (by omega)
    have hL := C.2.2.2.2.2.2.2.2.1.2.2.2.1 (k - 1000) (by omega)
    rw [show 1000 + (k - 1000) = k by omega] at hT hr hL
    rw [← hL, show (fun j => Value.int (roR (k - 1000) j)) = (fun j => .int (μ k j)) from by rw [hr]] at hT
    exact rocopy C.1 C.2.1 hml C.2.2.2.1 (hts _ (hw _ (by simp))) (hts _ (hw _ (by simp))) (hts _ (hw _ (by simp))) (hts _ (hw _ (by simp))) C.2.2.2.2.2.1.1 hP.1 (hG.vd Z μ) hP.2.1 hT k1 0 (by rw [wd_get hk1.2, ce_arr hk1.1 (by decide) (by decide)]) rfl h1 h2 h3 h4 h5 r1 hloc hd go
theorem v_bz {y : Int32} {g : Int32 → Option β} (h : (y = 0 ∨ y = 1) → VK x G Z cs nL Q J pc lv st μ (g y) f) : VK x G Z cs nL Q J pc lv st μ ((bz y).bind g) f := by
  intro a ha
  rw [Option.bind_assoc] at ha
  obtain ⟨hv, ha⟩ := bz_iff ha
  exact h hv a ha
theorem ob_s {a : γ} {F : γ → Option α} : (some a).bind F = F a := rfl
/-- what a branch leaves: the whole's result, or the values at the place where branches meet -/
def jn {τ : Type} (g : τ → Option β) : β ⊕ τ → Option β := fun q => match q with
  | .inl r => some r
  | .inr t => g t
theorem v_join {τ : Type} {o1 : Option τ} {g : τ → Option β} (pj : Nat) (P : τ → List (Nat × Value)) (S : τ → List Value) (M : τ → MT) (hJ : ∀ t, VK x G Z cs nL Q J pj (P t) (S t) (M t) (g t) f)
    (h : ∀ F : τ → Option α, (∀ t, VK x G Z cs nL Q J pj (P t) (S t) (M t) (F t) some) → VK x G Z cs nL Q J pc lv st μ o1 F) : VK x G Z cs nL Q J pc lv st μ (o1.bind g) f :=
  v_enter (h _ (fun t => v_fin (hJ t)))
theorem v_joinm {τ : Type} {o1 : Option (β ⊕ τ)} {g : τ → Option β} (pj : Nat) (P : τ → List (Nat × Value)) (S : τ → List Value) (M : τ → MT) (hJ : ∀ t, VK x G Z cs nL Q J pj (P t) (S t) (M t) (g t) f)
    (h : ∀ F : β ⊕ τ → Option α, (∀ r, F (.inl r) = f r) → (∀ t, VK x G Z cs nL Q J pj (P t) (S t) (M t) (F (.inr t)) some) → VK x G Z cs nL Q J pc lv st μ o1 F) : VK x G Z cs nL Q J pc lv st μ (o1.bind (jn g)) f :=
  v_enter (h (fun t => (jn g t).bind f) (fun _ => rfl) (fun t => v_fin (hJ t)))
def lq {σ τ : Type} (X : σ → Option α) (F : τ → Option α) : σ ⊕ τ → Option α := fun q => match q with
  | .inl s' => X s'
  | .inr t => F t
def LN : Nat := 1000000
theorem v_lp {σ τ : Type} {body : σ → Option (σ ⊕ τ)} {g : τ → Option β} (pj pe : Nat) (P : σ → List (Nat × Value)) (M : σ → MT) (PE : τ → List (Nat × Value)) (ME : τ → MT) (hE : ∀ t, VK x G Z cs nL Q J pe (PE t) [] (ME t) (g t) f)
    (hB : ∀ (X : σ → Option α) (F : τ → Option α), (∀ s, VK x G Z cs nL Q J pj (P s) [] (M s) (X s) some) → (∀ t, VK x G Z cs nL Q J pe (PE t) [] (ME t) (F t) some) → ∀ s, VK x G Z cs nL Q J pj (P s) [] (M s) (body s) (lq X F)) (N : Nat) (s : σ) : VK x G Z cs nL Q J pj (P s) [] (M s) ((loop body N s).bind g) f :=
  v_enter (v_loop (S := fun _ => []) (fun X hX s => hB X (fun t => (g t).bind f) hX (fun t => v_fin (hE t)) s) N s)
theorem v_lpm {σ τ : Type} {body : σ → Option (σ ⊕ (β ⊕ τ))} {g : τ → Option β} (pj pe : Nat) (P : σ → List (Nat × Value)) (M : σ → MT) (PE : τ → List (Nat × Value)) (ME : τ → MT) (hE : ∀ t, VK x G Z cs nL Q J pe (PE t) [] (ME t) (g t) f)
    (hB : ∀ (X : σ → Option α) (F : β ⊕ τ → Option α), (∀ r, F (.inl r) = f r) → (∀ s, VK x G Z cs nL Q J pj (P s) [] (M s) (X s) some) → (∀ t, VK x G Z cs nL Q J pe (PE t) [] (ME t) (F (.inr t)) some) → ∀ s, VK x G Z cs nL Q J pj (P s) [] (M s) (body s) (lq X F)) (N : Nat) (s : σ) : VK x G Z cs nL Q J pj (P s) [] (M s) ((loop body N s).bind (jn g)) f :=
  v_enter (v_loop (S := fun _ => []) (fun X hX s => hB X (fun t => (jn g t).bind f) (fun _ => rfl) hX (fun t => v_fin (hE t)) s) N s)
theorem v_alena (C : CF x G Z cc nL Ts own) {k : Nat} (hk : Oa G Z k) (hd : decode cc pc = .ok (.arraylength, 1)) (kk : VK x G Z cs nL Q J (pc + 1) lv (.int (Int32.ofNat (zl Z k)) :: st) μ o f) : VK x G Z cs nL Q J pc lv (.ref (ga G k) :: st) μ o f := by
  intro a ha H locs ls hP hl
  obtain ⟨hkk, hk | ⟨g1, g2⟩⟩ := hk
  · exact va_alen C.1 C.2.1 C.2.2.2.2.2.1.1 hP.1 k 0 (by rw [wd_get hk, ce_arr hkk (by decide) (by decide)]) rfl rfl hd (kk a ha H locs ls hP hl)
  · have hT := C.2.2.2.2.2.2.2.2.2.2 (k - 1000) (by omega)
    have hL := C.2.2.2.2.2.2.2.2.1.2.2.2.1 (k - 1000) (by omega)
    rw [show 1000 + (k - 1000) = k by omega] at hT hL
    obtain ⟨cell, h1, h2, h3, h4, h5, h6, h7⟩ := hT
    exact W.alen (n := Int32.ofNat (zl Z k)) C.1 C.2.1 (by rw [hP.2.1.2.1 _ (Array.getElem?_eq_some_iff.mp h1).1 h7]; exact h1) h2 (by rw [hL]; exact h5) rfl rfl hd (kk a ha H locs ls hP hl)
end VMORE
end
section
/-! ===== String constants (cells 2000 on; their bytes 2100 on) ===== -/
def slen (k : Nat) : Nat := txL.getD (k - 2100) 0
def sch (k j : Nat) : Int32 := (txB.getD (k - 2100) []).getD j 0
def sld (k : Nat) (i : Int32) : Option Int32 := if inb i (slen k) then some (sch k i.toNatClampNeg) else none
def stc (k : Nat) : Option Nat := if 2000 ≤ k ∧ k < 2014 then some k else none
section VSTR
variable {α β γ : Type} {x : CX} {G : GT} {Z : ZT} {cs : Nat × Nat} {nL : Nat} {Q : Option Value → MT → State → Prop} {J : α → Option Value × MT} {pc : Nat} {lv : List (Nat × Value)} {st : List Value} {μ : MT} {o : Option β} {f : β → Option α} {cc : ByteArray} {Ts : List Cond} {own : String}
theorem CF.strs (C : CF x G Z cc nL Ts own) : vk_S 14 txL txB (fun i => ga G (2000 + i)) (fun i => ga G (2100 + i)) (gA G) (xs x) (xs x).heap := C.2.2.2.2.2.2.1.2.2.2.2.2
theorem v_stc {k : Nat} {g : Nat → Option β} (h : 2000 ≤ k ∧ k < 2014 → VK x G Z cs nL Q J pc lv st μ (g k) f) : VK x G Z cs nL Q J pc lv st μ ((stc k).bind g) f := by
  intro a ha
  unfold stc at ha
  by_cases hk : 2000 ≤ k ∧ k < 2014
  · rw [if_pos hk] at ha
    exact h hk a ha
  · rw [if_neg hk] at ha
    cases ha
theorem v_lds (C : CF x G Z cc nL Ts "SeamPull$Tape") {index i : Nat} (hi : i < 14) (hx : txK.getD i 0 = index) (hd : decode cc pc = .ok (.ldc index, 2)) (kk : VK x G Z cs nL Q J (pc + 2) lv (.ref (ga G (2000 + i)) :: st) μ o f) : VK x G Z cs nL Q J pc lv st μ o f := by
  subst hx
  exact fun a ha H locs ls hP hl => va_ldcS C.1 C.2.1 C.2.2.2.1 (C.2.2.2.2.2.1.2.2 i hi) hd (kk a ha H locs ls hP hl)
theorem v_compact (C : CF x G Z cc nL BG own) {index : Nat} (hl : Cond.fieldLink own index "java/lang/String" "COMPACT_STRINGS" "Z" ∈ BG) (hd : decode cc pc = .ok (.getstatic index, 3)) (kk : VK x G Z cs nL Q J (pc + 3) lv (.int 1 :: st) μ o f) : VK x G Z cs nL Q J pc lv st μ o f :=
  fun a ha H locs ls hP hl2 => va_gets C.1 C.2.1 C.2.2.2.2.2.2.1.2.2.2.2.1 hP.2.1 C.2.2.2.1 (C.2.2.2.2.1 _ hl) (fun _ h => h) hd (kk a ha H locs ls hP hl2)
theorem v_strv (C : CF x G Z cc nL BG own) {index k : Nat} (hk : 2000 ≤ k ∧ k < 2014) (hl : Cond.fieldLink own index "java/lang/String" "value" "[B" ∈ BG) (hd : decode cc pc = .ok (.getfield index, 3)) (kk : VK x G Z cs nL Q J (pc + 3) lv (.ref (ga G (k + 100)) :: st) μ o f) : VK x G Z cs nL Q J pc lv (.ref (ga G k) :: st) μ o f := by
  intro a ha H locs ls hP hl2
  have h := (C.strs.1 (k - 2000) (by omega)).2.2.1
  have e1 : 2000 + (k - 2000) = k := by omega
  have e2 : 2100 + (k - 2000) = k + 100 := by omega
  simp only [e1, e2] at h
  exact vk_getf C.1 C.2.1 h hP.2.1 C.2.2.2.1 (C.2.2.2.2.1 _ hl) (fun _ h => h) hd (kk a ha H locs ls hP hl2)
theorem v_strc (C : CF x G Z cc nL BG own) {index k : Nat} (hk : 2000 ≤ k ∧ k < 2014) (hl : Cond.fieldLink own index "java/lang/String" "coder" "B" ∈ BG) (hd : decode cc pc = .ok (.getfield index, 3)) (kk : VK x G Z cs nL Q J (pc + 3) lv (.int 0 :: st) μ o f) : VK x G Z cs nL Q J pc lv (.ref (ga G k) :: st) μ o f := by
  intro a ha H locs ls hP hl2
  have h := (C.strs.1 (k - 2000) (by omega)).2.1
  have e1 : 2000 + (k - 2000) = k := by omega
  simp only [e1] at h
  exact vk_getf C.1 C.2.1 h hP.2.1 C.2.2.2.1 (C.2.2.2.2.1 _ hl) (fun _ h => h) hd (kk a ha H locs ls hP hl2)
theorem CF.strT (C : CF x G Z cc nL Ts own) {k : Nat} (hk : 2100 ≤ k ∧ k < 2114) : va_T .byte (ga G k) (slen k) (fun j => .int (sch k j)) (gA G) (xs x) (xs x).heap := by
  have h := (C.strs.1 (k - 2100) (by omega)).2.2.2
  have e1 : 2100 + (k - 2100) = k := by omega
  simp only [e1] at h
  exact h
theorem v_strl (C : CF x G Z cc nL Ts own) {k : Nat} (hk : 2100 ≤ k ∧ k < 2114) (hd : decode cc pc = .ok (.arraylength, 1)) (kk : VK x G Z cs nL Q J (pc + 1) lv (.int (Int32.ofNat (slen k)) :: st) μ o f) : VK x G Z cs nL Q J pc lv (.ref (ga G k) :: st) μ o f := by
  intro a ha H locs ls hP hl
  obtain ⟨cell, h1, h2, h3, h4, h5, h6, h7⟩ := C.strT hk
  exact W.alen (n := Int32.ofNat (slen k)) C.1 C.2.1 (by rw [hP.2.1.2.1 _ (Array.getElem?_eq_some_iff.mp h1).1 h7]; exact h1) h2 h5 rfl rfl hd (kk a ha H locs ls hP hl)
theorem v_strb (C : CF x G Z cc nL Ts own) {k : Nat} {i : Int32} {g : Int32 → Option β} (hk : 2100 ≤ k ∧ k < 2114) (hd : decode cc pc = .ok (.baload, 1)) (kk : ∀ v, VK x G Z cs nL Q J (pc + 1) lv (.int v :: st) μ (g v) f) : VK x G Z cs nL Q J pc lv (.int i :: .ref (ga G k) :: st) μ ((sld k i).bind g) f := by
  intro a ha H locs ls hP hl
  unfold sld at ha
  by_cases hi : inb i (slen k) = true
  · rw [if_pos hi] at ha
    exact va_tb C.1 C.2.1 (C.strT hk) hP.2.1 (inb_vp.mp hi) rfl hd (kk _ a ha H locs ls hP hl)
  · rw [if_neg hi] at ha
    cases ha
theorem v_i2c (C : CF x G Z cc nL Ts own) {y v : Int32} (hv : (y.toUInt32 % 65536).toInt32 = v) (hd : decode cc pc = .ok (.i2c, 1)) (kk : VK x G Z cs nL Q J (pc + 1) lv (.int v :: st) μ o f) : VK x G Z cs nL Q J pc lv (.int y :: st) μ o f :=
  fun a ha H locs ls hP hl => lv_i2c C.1 C.2.1 hd hv (kk a ha H locs ls hP hl)
theorem v_cret (C : CF x G Z cc nL Ts own) {v : Int32} {ty : FieldType} (hn : narrow ty (.int v) = .int v) (hr : (xM x).sig.returnType = some ty) (hd : decode cc pc = .ok (.ireturn, 1)) (ho : ∀ a, o.bind f = some a → J a = (some (.int v), μ)) : VK x G Z (0, 0) nL (QM x G Z) J pc lv [.int v] μ o f := by
  intro a ha H locs ls hP hl
  rw [ho a ha]
  exact W.zret C.1 C.2.1 hr hn (fun t ht hW => ⟨rfl, by rw [ht]; exact hP.1, hP.2.2, hP.2.1.F ht⟩) hP.2.1.2.2 hd (hlocks := C.2.2.2.2.2.2.2.2.2.1)
theorem v_aret (C : CF x G Z cc nL Ts own) {k : Nat} {N : String} (hr : (xM x).sig.returnType = some (.object N)) (hd : decode cc pc = .ok (.areturn, 1)) (ho : ∀ a, o.bind f = some a → J a = (some (.ref (ga G k)), μ)) : VK x G Z (0, 0) nL (QM x G Z) J pc lv [.ref (ga G k)] μ o f := by
  intro a ha H locs ls hP hl
  rw [ho a ha]
  exact W.aret C.1 C.2.1 hr (Or.inl ⟨_, rfl⟩) (Or.inr ⟨_, rfl⟩) (fun t ht hW => ⟨rfl, by rw [ht]; exact hP.1, hP.2.2, hP.2.1.F ht⟩) hP.2.1.2.2 hd (hlocks := C.2.2.2.2.2.2.2.2.2.1)
/-- a call on a String constant -/
theorem v_cvS (C : CF x G Z cc nL BG own) {d np : Nat} (hR : RO x cs (d + 1)) {y : MethodName} {bytes : ByteArray} {n : Nat} {rt : Option FieldType} {index : Nat} (cw : CWv own index "java/lang/String" y bytes n rt np) (hn40 : n ≤ 40) {k : Nat} (hk : 2000 ≤ k ∧ k < 2014) (av : List Value) (hnp : av.length = np) {oc : Option Int32} {g : Int32 → Option β}
    (hM : ∀ r, oc = some r → MZ x.2.1 G Z y bytes n rt d (.ref (ga G k) :: av) μ (some (.int r)) μ) (hst : (st.map fun v => v.category).sum ≤ 8) (hd : decode cc pc = .ok (.invokevirtual index, 3)) {st0 : List Value} (hs : st0 = av.reverse ++ .ref (ga G k) :: st)
    (kk : ∀ r, VK x G Z cs nL Q J (pc + 3) lv (.int r :: st) μ (g r) f) : VK x G Z cs nL Q J pc lv st0 μ (oc.bind g) f := by
  subst hs
  intro a ha H locs ls hP hl
  obtain ⟨b, hb, ha⟩ := ob_iff ha
  have hG : GoodIn BG (wsV own index "java/lang/String" y (Cond.code y bytes n rt :: BG)) := cw_good (fun w hw => by
    rcases List.mem_append.mp hw with h | h
    · simp only [List.mem_cons, List.not_mem_nil, or_false] at h
      exact cw.1 w (by rcases h with h | h | h | h <;> simp [h])
    · rcases List.mem_cons.mp h with rfl | h
      · exact cw.1 _ (by simp)
      · exact h)
  have hrv := vk_recv C.strs (i := k - 2000) (by omega) hP.2.1
  have e1 : 2000 + (k - 2000) = k := by omega
  simp only [e1] at hrv
  have hR' := hR
  obtain ⟨r1, r2, r3, r4⟩ := hR'
  exact v_back (J' := fun r : Int32 => (some (.int r), μ)) ha hP hl (va_runV (As := av) (rest := st) ⟨C.1, C.2.1, C.2.2.1, C.2.2.2.1, C.2.2.2.2.1⟩ (hM b hb) (cwV np C.2.2.2.2.1 hG rfl rfl rfl cw.2 ⟨by show d + 1 ≤ _; exact r1, by show 8 + (n + 11) + 64 * d ≤ _; omega⟩) ⟨PZ.blind, hrv, fun U hU hW => pz_pre C hP hU hW⟩ rfl hnp hl.1 rfl (lv_room hst) hd ⟨by show _ + 0 ≤ _; exact r3, by show _ + 0 ≤ _; exact r4⟩) (fun b => kk b)
theorem v_csRr (C : CF x G Z cc nL BG own) {d np : Nat} (hR : RO x cs (d + 1)) {y : MethodName} {bytes : ByteArray} {n : Nat} {rt : Option FieldType} {index : Nat} (cw : CWs own index y bytes n rt np) (hn40 : n ≤ 40) (av : List Value) (hnp : av.length = np) {oc : Option Nat} {g : Nat → Option β}
    (hM : ∀ r : Nat, oc = some r → MZ x.2.1 G Z y bytes n rt d av μ (some (.ref (ga G r))) μ) (hst : (st.map fun v => v.category).sum ≤ 8) (hd : decode cc pc = .ok (.invokestatic index, 3)) {st0 : List Value} (hs : st0 = av.reverse ++ st)
    (kk : ∀ r, VK x G Z cs nL Q J (pc + 3) lv (.ref (ga G r) :: st) μ (g r) f) : VK x G Z cs nL Q J pc lv st0 μ (oc.bind g) f :=
  v_cs C hR cw hn40 (J' := fun r : Nat => (some (.ref (ga G r)), μ)) hnp hM hst hd (fun b => kk b) hs
theorem v_tout2 (C : CF x G Z cc nL Ts own) {y : Int32} {dflt lo hi : Int} {offs : Array Int} {len t : Nat} (hd : decode cc pc = .ok (.tableswitch dflt lo hi offs, len)) (h : (y.toInt < lo ∨ hi < y.toInt) ∨ (¬ y.toInt < lo ∧ ¬ hi < y.toInt ∧ offs[(y.toInt - lo).toNat]? = some dflt)) (ht : (pc : Int) + dflt = (t : Int)) (kk : VK x G Z cs nL Q J t lv st μ o f) : VK x G Z cs nL Q J pc lv (.int y :: st) μ o f := by
  intro a ha H locs ls hP hl
  rcases h with h | ⟨h1, h2, h3⟩
  · exact lv_tableOut C.1 C.2.1 hd h ht (kk a ha H locs ls hP hl)
  · exact lv_tableIn C.1 C.2.1 hd h1 h2 h3 ht (kk a ha H locs ls hP hl)
end VSTR
end
