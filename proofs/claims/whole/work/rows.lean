section
-- ===== PART A: goes FIRST, ahead of the names: the tables' words, and 'selects' of the private methods out of them =====
/-- a private method of a class that the tables say can be made, by its rows of tables_1 -/
def lw_okq (q : MethodName × Nat) : Prop := (q.1.cls ≠ "java/lang/invoke/MethodHandle" ∧ q.1.cls ≠ "java/lang/invoke/VarHandle") ∧ Cond.instantiable q.1.cls q.2 ∈ tables_1 ∧ Cond.privateMethod q.1 ∈ tables_1 ∧ Cond.instanceMethod q.1 ∈ tables_1
theorem lw_p0 : lw_okq (⟨"SeamPull", "found", "(I)I"⟩, 16) := ⟨⟨by decide +kernel, by decide +kernel⟩, List.mem_of_getElem? (i := 20) (by decide +kernel), List.mem_of_getElem? (i := 308) (by decide +kernel), List.mem_of_getElem? (i := 309) (by decide +kernel)⟩
theorem lw_p1 : lw_okq (⟨"SeamPull", "fine", "(I)I"⟩, 16) := ⟨⟨by decide +kernel, by decide +kernel⟩, List.mem_of_getElem? (i := 20) (by decide +kernel), List.mem_of_getElem? (i := 317) (by decide +kernel), List.mem_of_getElem? (i := 318) (by decide +kernel)⟩
theorem lw_p2 : lw_okq (⟨"SeamPull$Reader", "takePanel", "(LSeamPull$Plan;)I"⟩, 2) := ⟨⟨by decide +kernel, by decide +kernel⟩, List.mem_of_getElem? (i := 74) (by decide +kernel), List.mem_of_getElem? (i := 401) (by decide +kernel), List.mem_of_getElem? (i := 402) (by decide +kernel)⟩
theorem lw_p3 : lw_okq (⟨"SeamPull$Tape", "spells", "(Ljava/lang/String;)Z"⟩, 5) := ⟨⟨by decide +kernel, by decide +kernel⟩, List.mem_of_getElem? (i := 50) (by decide +kernel), List.mem_of_getElem? (i := 426) (by decide +kernel), List.mem_of_getElem? (i := 427) (by decide +kernel)⟩
theorem lw_p4 : lw_okq (⟨"SeamPull$Reader", "takeNumber", "(II)I"⟩, 2) := ⟨⟨by decide +kernel, by decide +kernel⟩, List.mem_of_getElem? (i := 74) (by decide +kernel), List.mem_of_getElem? (i := 479) (by decide +kernel), List.mem_of_getElem? (i := 480) (by decide +kernel)⟩
theorem lw_p5 : lw_okq (⟨"SeamPull$Reader", "takeSign", "()I"⟩, 2) := ⟨⟨by decide +kernel, by decide +kernel⟩, List.mem_of_getElem? (i := 74) (by decide +kernel), List.mem_of_getElem? (i := 491) (by decide +kernel), List.mem_of_getElem? (i := 492) (by decide +kernel)⟩
theorem lw_p6 : lw_okq (⟨"SeamPull$Reader", "takeSeam", "(LSeamPull$Plan;)I"⟩, 2) := ⟨⟨by decide +kernel, by decide +kernel⟩, List.mem_of_getElem? (i := 74) (by decide +kernel), List.mem_of_getElem? (i := 499) (by decide +kernel), List.mem_of_getElem? (i := 500) (by decide +kernel)⟩
theorem lw_p7 : lw_okq (⟨"SeamPull$Reader", "takeAct", "(LSeamPull$Plan;I)I"⟩, 2) := ⟨⟨by decide +kernel, by decide +kernel⟩, List.mem_of_getElem? (i := 74) (by decide +kernel), List.mem_of_getElem? (i := 508) (by decide +kernel), List.mem_of_getElem? (i := 509) (by decide +kernel)⟩
theorem lw_p8 : lw_okq (⟨"SeamPull$Reader", "takeBefore", "(LSeamPull$Plan;)I"⟩, 2) := ⟨⟨by decide +kernel, by decide +kernel⟩, List.mem_of_getElem? (i := 74) (by decide +kernel), List.mem_of_getElem? (i := 520) (by decide +kernel), List.mem_of_getElem? (i := 521) (by decide +kernel)⟩
theorem lw_p9 : lw_okq (⟨"SeamPull", "beginPlan", "()V"⟩, 16) := ⟨⟨by decide +kernel, by decide +kernel⟩, List.mem_of_getElem? (i := 20) (by decide +kernel), List.mem_of_getElem? (i := 545) (by decide +kernel), List.mem_of_getElem? (i := 546) (by decide +kernel)⟩
theorem lw_p10 : lw_okq (⟨"SeamPull", "standByOrder", "()I"⟩, 16) := ⟨⟨by decide +kernel, by decide +kernel⟩, List.mem_of_getElem? (i := 20) (by decide +kernel), List.mem_of_getElem? (i := 615) (by decide +kernel), List.mem_of_getElem? (i := 616) (by decide +kernel)⟩
theorem lw_p11 : lw_okq (⟨"SeamPull$Panel", "freeOne", "(I)V"⟩, 10) := ⟨⟨by decide +kernel, by decide +kernel⟩, List.mem_of_getElem? (i := 87) (by decide +kernel), List.mem_of_getElem? (i := 636) (by decide +kernel), List.mem_of_getElem? (i := 637) (by decide +kernel)⟩
theorem lw_p12 : lw_okq (⟨"SeamPull$Panel", "has", "(I)Z"⟩, 10) := ⟨⟨by decide +kernel, by decide +kernel⟩, List.mem_of_getElem? (i := 87) (by decide +kernel), List.mem_of_getElem? (i := 640) (by decide +kernel), List.mem_of_getElem? (i := 641) (by decide +kernel)⟩
theorem lw_p13 : lw_okq (⟨"SeamPull$Panel", "isClamped", "(I)Z"⟩, 10) := ⟨⟨by decide +kernel, by decide +kernel⟩, List.mem_of_getElem? (i := 87) (by decide +kernel), List.mem_of_getElem? (i := 644) (by decide +kernel), List.mem_of_getElem? (i := 645) (by decide +kernel)⟩
theorem lw_p14 : lw_okq (⟨"SeamPull$Panel", "doStep", "(III)V"⟩, 10) := ⟨⟨by decide +kernel, by decide +kernel⟩, List.mem_of_getElem? (i := 87) (by decide +kernel), List.mem_of_getElem? (i := 648) (by decide +kernel), List.mem_of_getElem? (i := 649) (by decide +kernel)⟩
theorem lw_p15 : lw_okq (⟨"SeamPull$Panel", "cool", "(I)V"⟩, 10) := ⟨⟨by decide +kernel, by decide +kernel⟩, List.mem_of_getElem? (i := 87) (by decide +kernel), List.mem_of_getElem? (i := 652) (by decide +kernel), List.mem_of_getElem? (i := 653) (by decide +kernel)⟩
def lw_privs_1 : List (MethodName × Nat) := [(⟨"SeamPull", "found", "(I)I"⟩, 16), (⟨"SeamPull", "fine", "(I)I"⟩, 16), (⟨"SeamPull$Reader", "takePanel", "(LSeamPull$Plan;)I"⟩, 2), (⟨"SeamPull$Tape", "spells", "(Ljava/lang/String;)Z"⟩, 5), (⟨"SeamPull$Reader", "takeNumber", "(II)I"⟩, 2), (⟨"SeamPull$Reader", "takeSign", "()I"⟩, 2), (⟨"SeamPull$Reader", "takeSeam", "(LSeamPull$Plan;)I"⟩, 2), (⟨"SeamPull$Reader", "takeAct", "(LSeamPull$Plan;I)I"⟩, 2), (⟨"SeamPull$Reader", "takeBefore", "(LSeamPull$Plan;)I"⟩, 2), (⟨"SeamPull", "beginPlan", "()V"⟩, 16), (⟨"SeamPull", "standByOrder", "()I"⟩, 16), (⟨"SeamPull$Panel", "freeOne", "(I)V"⟩, 10), (⟨"SeamPull$Panel", "has", "(I)Z"⟩, 10), (⟨"SeamPull$Panel", "isClamped", "(I)Z"⟩, 10), (⟨"SeamPull$Panel", "doStep", "(III)V"⟩, 10), (⟨"SeamPull$Panel", "cool", "(I)V"⟩, 10)]
theorem lw_r1 : ∀ q ∈ lw_privs_1, lw_okq q := List.forall_mem_cons.mpr ⟨lw_p0, List.forall_mem_cons.mpr ⟨lw_p1, List.forall_mem_cons.mpr ⟨lw_p2, List.forall_mem_cons.mpr ⟨lw_p3, List.forall_mem_cons.mpr ⟨lw_p4, List.forall_mem_cons.mpr ⟨lw_p5, List.forall_mem_cons.mpr ⟨lw_p6, List.forall_mem_cons.mpr ⟨lw_p7, List.forall_mem_cons.mpr ⟨lw_p8, List.forall_mem_cons.mpr ⟨lw_p9, List.forall_mem_cons.mpr ⟨lw_p10, List.forall_mem_cons.mpr ⟨lw_p11, List.forall_mem_cons.mpr ⟨lw_p12, List.forall_mem_cons.mpr ⟨lw_p13, List.forall_mem_cons.mpr ⟨lw_p14, List.forall_mem_cons.mpr ⟨lw_p15, fun _ h => absurd h List.not_mem_nil⟩⟩⟩⟩⟩⟩⟩⟩⟩⟩⟩⟩⟩⟩⟩⟩
theorem lw_p16 : lw_okq (⟨"SeamPull$Panel", "shrinkageOf", "(III)I"⟩, 10) := ⟨⟨by decide +kernel, by decide +kernel⟩, List.mem_of_getElem? (i := 87) (by decide +kernel), List.mem_of_getElem? (i := 656) (by decide +kernel), List.mem_of_getElem? (i := 657) (by decide +kernel)⟩
theorem lw_p17 : lw_okq (⟨"SeamPull$Panel", "holds", "(I)Z"⟩, 10) := ⟨⟨by decide +kernel, by decide +kernel⟩, List.mem_of_getElem? (i := 87) (by decide +kernel), List.mem_of_getElem? (i := 660) (by decide +kernel), List.mem_of_getElem? (i := 661) (by decide +kernel)⟩
theorem lw_p18 : lw_okq (⟨"SeamPull$Panel", "effectOf", "(II)I"⟩, 10) := ⟨⟨by decide +kernel, by decide +kernel⟩, List.mem_of_getElem? (i := 87) (by decide +kernel), List.mem_of_getElem? (i := 664) (by decide +kernel), List.mem_of_getElem? (i := 665) (by decide +kernel)⟩
theorem lw_p19 : lw_okq (⟨"SeamPull$Search", "tryFrom", "(LSeamPull$Plan;II)V"⟩, 7) := ⟨⟨by decide +kernel, by decide +kernel⟩, List.mem_of_getElem? (i := 129) (by decide +kernel), List.mem_of_getElem? (i := 731) (by decide +kernel), List.mem_of_getElem? (i := 732) (by decide +kernel)⟩
theorem lw_p20 : lw_okq (⟨"SeamPull$Search", "weigh", "(LSeamPull$Panel;I)V"⟩, 7) := ⟨⟨by decide +kernel, by decide +kernel⟩, List.mem_of_getElem? (i := 129) (by decide +kernel), List.mem_of_getElem? (i := 735) (by decide +kernel), List.mem_of_getElem? (i := 736) (by decide +kernel)⟩
theorem lw_p21 : lw_okq (⟨"SeamPull$Beforehand", "keepWhereFlat", "(LSeamPull$Panel;I)V"⟩, 3) := ⟨⟨by decide +kernel, by decide +kernel⟩, List.mem_of_getElem? (i := 163) (by decide +kernel), List.mem_of_getElem? (i := 772) (by decide +kernel), List.mem_of_getElem? (i := 773) (by decide +kernel)⟩
theorem lw_p22 : lw_okq (⟨"SeamPull", "drawDown", "(III)Z"⟩, 16) := ⟨⟨by decide +kernel, by decide +kernel⟩, List.mem_of_getElem? (i := 20) (by decide +kernel), List.mem_of_getElem? (i := 786) (by decide +kernel), List.mem_of_getElem? (i := 787) (by decide +kernel)⟩
theorem lw_p23 : lw_okq (⟨"SeamPull", "spotAt", "(II)V"⟩, 16) := ⟨⟨by decide +kernel, by decide +kernel⟩, List.mem_of_getElem? (i := 20) (by decide +kernel), List.mem_of_getElem? (i := 790) (by decide +kernel), List.mem_of_getElem? (i := 791) (by decide +kernel)⟩
theorem lw_p24 : lw_okq (⟨"SeamPull", "steelOf", "(II)I"⟩, 16) := ⟨⟨by decide +kernel, by decide +kernel⟩, List.mem_of_getElem? (i := 20) (by decide +kernel), List.mem_of_getElem? (i := 819) (by decide +kernel), List.mem_of_getElem? (i := 820) (by decide +kernel)⟩
theorem lw_p25 : lw_okq (⟨"SeamPull", "isSteel", "(III)Z"⟩, 16) := ⟨⟨by decide +kernel, by decide +kernel⟩, List.mem_of_getElem? (i := 20) (by decide +kernel), List.mem_of_getElem? (i := 823) (by decide +kernel), List.mem_of_getElem? (i := 824) (by decide +kernel)⟩
theorem lw_p26 : lw_okq (⟨"SeamPull", "wireBend", "(III)I"⟩, 16) := ⟨⟨by decide +kernel, by decide +kernel⟩, List.mem_of_getElem? (i := 20) (by decide +kernel), List.mem_of_getElem? (i := 827) (by decide +kernel), List.mem_of_getElem? (i := 828) (by decide +kernel)⟩
theorem lw_p27 : lw_okq (⟨"SeamPull$Asks", "asked", "(LSeamPull$Plan;III)I"⟩, 2) := ⟨⟨by decide +kernel, by decide +kernel⟩, List.mem_of_getElem? (i := 180) (by decide +kernel), List.mem_of_getElem? (i := 860) (by decide +kernel), List.mem_of_getElem? (i := 861) (by decide +kernel)⟩
theorem lw_p28 : lw_okq (⟨"SeamPull$Asks", "given", "(LSeamPull$Plan;III)I"⟩, 2) := ⟨⟨by decide +kernel, by decide +kernel⟩, List.mem_of_getElem? (i := 180) (by decide +kernel), List.mem_of_getElem? (i := 872) (by decide +kernel), List.mem_of_getElem? (i := 873) (by decide +kernel)⟩
theorem lw_p29 : lw_okq (⟨"SeamPull$Asks", "leave", "(I)V"⟩, 2) := ⟨⟨by decide +kernel, by decide +kernel⟩, List.mem_of_getElem? (i := 180) (by decide +kernel), List.mem_of_getElem? (i := 876) (by decide +kernel), List.mem_of_getElem? (i := 877) (by decide +kernel)⟩
theorem lw_p30 : lw_okq (⟨"SeamPullModel", "finding", "(I)I"⟩, 43) := ⟨⟨by decide +kernel, by decide +kernel⟩, List.mem_of_getElem? (i := 901) (by decide +kernel), List.mem_of_getElem? (i := 1051) (by decide +kernel), List.mem_of_getElem? (i := 1052) (by decide +kernel)⟩
theorem lw_p31 : lw_okq (⟨"SeamPullModel", "next", "()V"⟩, 43) := ⟨⟨by decide +kernel, by decide +kernel⟩, List.mem_of_getElem? (i := 901) (by decide +kernel), List.mem_of_getElem? (i := 1079) (by decide +kernel), List.mem_of_getElem? (i := 1080) (by decide +kernel)⟩
def lw_privs_2 : List (MethodName × Nat) := [(⟨"SeamPull$Panel", "shrinkageOf", "(III)I"⟩, 10), (⟨"SeamPull$Panel", "holds", "(I)Z"⟩, 10), (⟨"SeamPull$Panel", "effectOf", "(II)I"⟩, 10), (⟨"SeamPull$Search", "tryFrom", "(LSeamPull$Plan;II)V"⟩, 7), (⟨"SeamPull$Search", "weigh", "(LSeamPull$Panel;I)V"⟩, 7), (⟨"SeamPull$Beforehand", "keepWhereFlat", "(LSeamPull$Panel;I)V"⟩, 3), (⟨"SeamPull", "drawDown", "(III)Z"⟩, 16), (⟨"SeamPull", "spotAt", "(II)V"⟩, 16), (⟨"SeamPull", "steelOf", "(II)I"⟩, 16), (⟨"SeamPull", "isSteel", "(III)Z"⟩, 16), (⟨"SeamPull", "wireBend", "(III)I"⟩, 16), (⟨"SeamPull$Asks", "asked", "(LSeamPull$Plan;III)I"⟩, 2), (⟨"SeamPull$Asks", "given", "(LSeamPull$Plan;III)I"⟩, 2), (⟨"SeamPull$Asks", "leave", "(I)V"⟩, 2), (⟨"SeamPullModel", "finding", "(I)I"⟩, 43), (⟨"SeamPullModel", "next", "()V"⟩, 43)]
theorem lw_r2 : ∀ q ∈ lw_privs_2, lw_okq q := List.forall_mem_cons.mpr ⟨lw_p16, List.forall_mem_cons.mpr ⟨lw_p17, List.forall_mem_cons.mpr ⟨lw_p18, List.forall_mem_cons.mpr ⟨lw_p19, List.forall_mem_cons.mpr ⟨lw_p20, List.forall_mem_cons.mpr ⟨lw_p21, List.forall_mem_cons.mpr ⟨lw_p22, List.forall_mem_cons.mpr ⟨lw_p23, List.forall_mem_cons.mpr ⟨lw_p24, List.forall_mem_cons.mpr ⟨lw_p25, List.forall_mem_cons.mpr ⟨lw_p26, List.forall_mem_cons.mpr ⟨lw_p27, List.forall_mem_cons.mpr ⟨lw_p28, List.forall_mem_cons.mpr ⟨lw_p29, List.forall_mem_cons.mpr ⟨lw_p30, List.forall_mem_cons.mpr ⟨lw_p31, fun _ h => absurd h List.not_mem_nil⟩⟩⟩⟩⟩⟩⟩⟩⟩⟩⟩⟩⟩⟩⟩⟩
theorem lw_p32 : lw_okq (⟨"SeamPullModel", "byteAt", "(I)I"⟩, 43) := ⟨⟨by decide +kernel, by decide +kernel⟩, List.mem_of_getElem? (i := 901) (by decide +kernel), List.mem_of_getElem? (i := 1083) (by decide +kernel), List.mem_of_getElem? (i := 1084) (by decide +kernel)⟩
theorem lw_p33 : lw_okq (⟨"SeamPullModel", "word", "()J"⟩, 43) := ⟨⟨by decide +kernel, by decide +kernel⟩, List.mem_of_getElem? (i := 901) (by decide +kernel), List.mem_of_getElem? (i := 1094) (by decide +kernel), List.mem_of_getElem? (i := 1095) (by decide +kernel)⟩
theorem lw_p34 : lw_okq (⟨"SeamPullModel", "must", "(Z)V"⟩, 43) := ⟨⟨by decide +kernel, by decide +kernel⟩, List.mem_of_getElem? (i := 901) (by decide +kernel), List.mem_of_getElem? (i := 1099) (by decide +kernel), List.mem_of_getElem? (i := 1100) (by decide +kernel)⟩
theorem lw_p35 : lw_okq (⟨"SeamPullModel", "bad", "(I)V"⟩, 43) := ⟨⟨by decide +kernel, by decide +kernel⟩, List.mem_of_getElem? (i := 901) (by decide +kernel), List.mem_of_getElem? (i := 1103) (by decide +kernel), List.mem_of_getElem? (i := 1104) (by decide +kernel)⟩
theorem lw_p36 : lw_okq (⟨"SeamPullModel", "numberIn", "(III)I"⟩, 43) := ⟨⟨by decide +kernel, by decide +kernel⟩, List.mem_of_getElem? (i := 901) (by decide +kernel), List.mem_of_getElem? (i := 1107) (by decide +kernel), List.mem_of_getElem? (i := 1108) (by decide +kernel)⟩
theorem lw_p37 : lw_okq (⟨"SeamPullModel", "mustEnd", "()V"⟩, 43) := ⟨⟨by decide +kernel, by decide +kernel⟩, List.mem_of_getElem? (i := 901) (by decide +kernel), List.mem_of_getElem? (i := 1111) (by decide +kernel), List.mem_of_getElem? (i := 1112) (by decide +kernel)⟩
theorem lw_p38 : lw_okq (⟨"SeamPullModel", "readSeam", "()V"⟩, 43) := ⟨⟨by decide +kernel, by decide +kernel⟩, List.mem_of_getElem? (i := 901) (by decide +kernel), List.mem_of_getElem? (i := 1116) (by decide +kernel), List.mem_of_getElem? (i := 1117) (by decide +kernel)⟩
theorem lw_p39 : lw_okq (⟨"SeamPullModel", "kindOfWord", "()I"⟩, 43) := ⟨⟨by decide +kernel, by decide +kernel⟩, List.mem_of_getElem? (i := 901) (by decide +kernel), List.mem_of_getElem? (i := 1120) (by decide +kernel), List.mem_of_getElem? (i := 1121) (by decide +kernel)⟩
theorem lw_p40 : lw_okq (⟨"SeamPullModel", "readAct", "(I)V"⟩, 43) := ⟨⟨by decide +kernel, by decide +kernel⟩, List.mem_of_getElem? (i := 901) (by decide +kernel), List.mem_of_getElem? (i := 1134) (by decide +kernel), List.mem_of_getElem? (i := 1135) (by decide +kernel)⟩
theorem lw_p41 : lw_okq (⟨"SeamPullModel", "readBefore", "()V"⟩, 43) := ⟨⟨by decide +kernel, by decide +kernel⟩, List.mem_of_getElem? (i := 901) (by decide +kernel), List.mem_of_getElem? (i := 1139) (by decide +kernel), List.mem_of_getElem? (i := 1140) (by decide +kernel)⟩
theorem lw_p42 : lw_okq (⟨"SeamPullModel", "isAct", "(I)Z"⟩, 43) := ⟨⟨by decide +kernel, by decide +kernel⟩, List.mem_of_getElem? (i := 901) (by decide +kernel), List.mem_of_getElem? (i := 1152) (by decide +kernel), List.mem_of_getElem? (i := 1153) (by decide +kernel)⟩
theorem lw_p43 : lw_okq (⟨"SeamPullModel", "isCell", "(I)Z"⟩, 43) := ⟨⟨by decide +kernel, by decide +kernel⟩, List.mem_of_getElem? (i := 901) (by decide +kernel), List.mem_of_getElem? (i := 1161) (by decide +kernel), List.mem_of_getElem? (i := 1162) (by decide +kernel)⟩
theorem lw_p44 : lw_okq (⟨"SeamPullModel", "layOpened", "()V"⟩, 43) := ⟨⟨by decide +kernel, by decide +kernel⟩, List.mem_of_getElem? (i := 901) (by decide +kernel), List.mem_of_getElem? (i := 1172) (by decide +kernel), List.mem_of_getElem? (i := 1173) (by decide +kernel)⟩
theorem lw_p45 : lw_okq (⟨"SeamPullModel", "go", "(I)V"⟩, 43) := ⟨⟨by decide +kernel, by decide +kernel⟩, List.mem_of_getElem? (i := 901) (by decide +kernel), List.mem_of_getElem? (i := 1176) (by decide +kernel), List.mem_of_getElem? (i := 1177) (by decide +kernel)⟩
theorem lw_p46 : lw_okq (⟨"SeamPullModel", "doAct", "(I)V"⟩, 43) := ⟨⟨by decide +kernel, by decide +kernel⟩, List.mem_of_getElem? (i := 901) (by decide +kernel), List.mem_of_getElem? (i := 1182) (by decide +kernel), List.mem_of_getElem? (i := 1183) (by decide +kernel)⟩
theorem lw_p47 : lw_okq (⟨"SeamPullModel", "minute", "()V"⟩, 43) := ⟨⟨by decide +kernel, by decide +kernel⟩, List.mem_of_getElem? (i := 901) (by decide +kernel), List.mem_of_getElem? (i := 1186) (by decide +kernel), List.mem_of_getElem? (i := 1187) (by decide +kernel)⟩
def lw_privs_3 : List (MethodName × Nat) := [(⟨"SeamPullModel", "byteAt", "(I)I"⟩, 43), (⟨"SeamPullModel", "word", "()J"⟩, 43), (⟨"SeamPullModel", "must", "(Z)V"⟩, 43), (⟨"SeamPullModel", "bad", "(I)V"⟩, 43), (⟨"SeamPullModel", "numberIn", "(III)I"⟩, 43), (⟨"SeamPullModel", "mustEnd", "()V"⟩, 43), (⟨"SeamPullModel", "readSeam", "()V"⟩, 43), (⟨"SeamPullModel", "kindOfWord", "()I"⟩, 43), (⟨"SeamPullModel", "readAct", "(I)V"⟩, 43), (⟨"SeamPullModel", "readBefore", "()V"⟩, 43), (⟨"SeamPullModel", "isAct", "(I)Z"⟩, 43), (⟨"SeamPullModel", "isCell", "(I)Z"⟩, 43), (⟨"SeamPullModel", "layOpened", "()V"⟩, 43), (⟨"SeamPullModel", "go", "(I)V"⟩, 43), (⟨"SeamPullModel", "doAct", "(I)V"⟩, 43), (⟨"SeamPullModel", "minute", "()V"⟩, 43)]
theorem lw_r3 : ∀ q ∈ lw_privs_3, lw_okq q := List.forall_mem_cons.mpr ⟨lw_p32, List.forall_mem_cons.mpr ⟨lw_p33, List.forall_mem_cons.mpr ⟨lw_p34, List.forall_mem_cons.mpr ⟨lw_p35, List.forall_mem_cons.mpr ⟨lw_p36, List.forall_mem_cons.mpr ⟨lw_p37, List.forall_mem_cons.mpr ⟨lw_p38, List.forall_mem_cons.mpr ⟨lw_p39, List.forall_mem_cons.mpr ⟨lw_p40, List.forall_mem_cons.mpr ⟨lw_p41, List.forall_mem_cons.mpr ⟨lw_p42, List.forall_mem_cons.mpr ⟨lw_p43, List.forall_mem_cons.mpr ⟨lw_p44, List.forall_mem_cons.mpr ⟨lw_p45, List.forall_mem_cons.mpr ⟨lw_p46, List.forall_mem_cons.mpr ⟨lw_p47, fun _ h => absurd h List.not_mem_nil⟩⟩⟩⟩⟩⟩⟩⟩⟩⟩⟩⟩⟩⟩⟩⟩
theorem lw_p48 : lw_okq (⟨"SeamPullModel", "free", "(I)V"⟩, 43) := ⟨⟨by decide +kernel, by decide +kernel⟩, List.mem_of_getElem? (i := 901) (by decide +kernel), List.mem_of_getElem? (i := 1190) (by decide +kernel), List.mem_of_getElem? (i := 1191) (by decide +kernel)⟩
theorem lw_p49 : lw_okq (⟨"SeamPullModel", "step", "(III)V"⟩, 43) := ⟨⟨by decide +kernel, by decide +kernel⟩, List.mem_of_getElem? (i := 901) (by decide +kernel), List.mem_of_getElem? (i := 1194) (by decide +kernel), List.mem_of_getElem? (i := 1195) (by decide +kernel)⟩
theorem lw_p50 : lw_okq (⟨"SeamPullModel", "shrinks", "(III)I"⟩, 43) := ⟨⟨by decide +kernel, by decide +kernel⟩, List.mem_of_getElem? (i := 901) (by decide +kernel), List.mem_of_getElem? (i := 1198) (by decide +kernel), List.mem_of_getElem? (i := 1199) (by decide +kernel)⟩
theorem lw_p51 : lw_okq (⟨"SeamPullModel", "holds", "(I)Z"⟩, 43) := ⟨⟨by decide +kernel, by decide +kernel⟩, List.mem_of_getElem? (i := 901) (by decide +kernel), List.mem_of_getElem? (i := 1202) (by decide +kernel), List.mem_of_getElem? (i := 1203) (by decide +kernel)⟩
theorem lw_p52 : lw_okq (⟨"SeamPullModel", "stand", "()V"⟩, 43) := ⟨⟨by decide +kernel, by decide +kernel⟩, List.mem_of_getElem? (i := 901) (by decide +kernel), List.mem_of_getElem? (i := 1206) (by decide +kernel), List.mem_of_getElem? (i := 1207) (by decide +kernel)⟩
theorem lw_p53 : lw_okq (⟨"SeamPullModel", "offBy", "()I"⟩, 43) := ⟨⟨by decide +kernel, by decide +kernel⟩, List.mem_of_getElem? (i := 901) (by decide +kernel), List.mem_of_getElem? (i := 1210) (by decide +kernel), List.mem_of_getElem? (i := 1211) (by decide +kernel)⟩
theorem lw_p54 : lw_okq (⟨"SeamPullModel", "heightBy", "([II)I"⟩, 43) := ⟨⟨by decide +kernel, by decide +kernel⟩, List.mem_of_getElem? (i := 901) (by decide +kernel), List.mem_of_getElem? (i := 1214) (by decide +kernel), List.mem_of_getElem? (i := 1215) (by decide +kernel)⟩
theorem lw_p55 : lw_okq (⟨"SeamPullModel", "layNumbers", "()V"⟩, 43) := ⟨⟨by decide +kernel, by decide +kernel⟩, List.mem_of_getElem? (i := 901) (by decide +kernel), List.mem_of_getElem? (i := 1222) (by decide +kernel), List.mem_of_getElem? (i := 1223) (by decide +kernel)⟩
theorem lw_p56 : lw_okq (⟨"SeamPullModel", "layStanding", "()V"⟩, 43) := ⟨⟨by decide +kernel, by decide +kernel⟩, List.mem_of_getElem? (i := 901) (by decide +kernel), List.mem_of_getElem? (i := 1230) (by decide +kernel), List.mem_of_getElem? (i := 1231) (by decide +kernel)⟩
theorem lw_p57 : lw_okq (⟨"SeamPullModel", "fits", "()Z"⟩, 43) := ⟨⟨by decide +kernel, by decide +kernel⟩, List.mem_of_getElem? (i := 901) (by decide +kernel), List.mem_of_getElem? (i := 1250) (by decide +kernel), List.mem_of_getElem? (i := 1251) (by decide +kernel)⟩
theorem lw_p58 : lw_okq (⟨"SeamPullModel", "nextOrder", "()Z"⟩, 43) := ⟨⟨by decide +kernel, by decide +kernel⟩, List.mem_of_getElem? (i := 901) (by decide +kernel), List.mem_of_getElem? (i := 1254) (by decide +kernel), List.mem_of_getElem? (i := 1255) (by decide +kernel)⟩
theorem lw_p59 : lw_okq (⟨"SeamPullModel", "setBy", "(I)I"⟩, 43) := ⟨⟨by decide +kernel, by decide +kernel⟩, List.mem_of_getElem? (i := 901) (by decide +kernel), List.mem_of_getElem? (i := 1266) (by decide +kernel), List.mem_of_getElem? (i := 1267) (by decide +kernel)⟩
theorem lw_p60 : lw_okq (⟨"SeamPullModel", "flame", "(II)V"⟩, 43) := ⟨⟨by decide +kernel, by decide +kernel⟩, List.mem_of_getElem? (i := 901) (by decide +kernel), List.mem_of_getElem? (i := 1275) (by decide +kernel), List.mem_of_getElem? (i := 1276) (by decide +kernel)⟩
theorem lw_p61 : lw_okq (⟨"SeamPullModel", "crackAt", "(I)I"⟩, 43) := ⟨⟨by decide +kernel, by decide +kernel⟩, List.mem_of_getElem? (i := 901) (by decide +kernel), List.mem_of_getElem? (i := 1284) (by decide +kernel), List.mem_of_getElem? (i := 1285) (by decide +kernel)⟩
theorem lw_p62 : lw_okq (⟨"SeamPullModel", "bendBy", "(II)I"⟩, 43) := ⟨⟨by decide +kernel, by decide +kernel⟩, List.mem_of_getElem? (i := 901) (by decide +kernel), List.mem_of_getElem? (i := 1299) (by decide +kernel), List.mem_of_getElem? (i := 1300) (by decide +kernel)⟩
theorem lw_p63 : lw_okq (⟨"SeamPullModel", "isStep", "(I)Z"⟩, 43) := ⟨⟨by decide +kernel, by decide +kernel⟩, List.mem_of_getElem? (i := 901) (by decide +kernel), List.mem_of_getElem? (i := 1307) (by decide +kernel), List.mem_of_getElem? (i := 1308) (by decide +kernel)⟩
def lw_privs_4 : List (MethodName × Nat) := [(⟨"SeamPullModel", "free", "(I)V"⟩, 43), (⟨"SeamPullModel", "step", "(III)V"⟩, 43), (⟨"SeamPullModel", "shrinks", "(III)I"⟩, 43), (⟨"SeamPullModel", "holds", "(I)Z"⟩, 43), (⟨"SeamPullModel", "stand", "()V"⟩, 43), (⟨"SeamPullModel", "offBy", "()I"⟩, 43), (⟨"SeamPullModel", "heightBy", "([II)I"⟩, 43), (⟨"SeamPullModel", "layNumbers", "()V"⟩, 43), (⟨"SeamPullModel", "layStanding", "()V"⟩, 43), (⟨"SeamPullModel", "fits", "()Z"⟩, 43), (⟨"SeamPullModel", "nextOrder", "()Z"⟩, 43), (⟨"SeamPullModel", "setBy", "(I)I"⟩, 43), (⟨"SeamPullModel", "flame", "(II)V"⟩, 43), (⟨"SeamPullModel", "crackAt", "(I)I"⟩, 43), (⟨"SeamPullModel", "bendBy", "(II)I"⟩, 43), (⟨"SeamPullModel", "isStep", "(I)Z"⟩, 43)]
theorem lw_r4 : ∀ q ∈ lw_privs_4, lw_okq q := List.forall_mem_cons.mpr ⟨lw_p48, List.forall_mem_cons.mpr ⟨lw_p49, List.forall_mem_cons.mpr ⟨lw_p50, List.forall_mem_cons.mpr ⟨lw_p51, List.forall_mem_cons.mpr ⟨lw_p52, List.forall_mem_cons.mpr ⟨lw_p53, List.forall_mem_cons.mpr ⟨lw_p54, List.forall_mem_cons.mpr ⟨lw_p55, List.forall_mem_cons.mpr ⟨lw_p56, List.forall_mem_cons.mpr ⟨lw_p57, List.forall_mem_cons.mpr ⟨lw_p58, List.forall_mem_cons.mpr ⟨lw_p59, List.forall_mem_cons.mpr ⟨lw_p60, List.forall_mem_cons.mpr ⟨lw_p61, List.forall_mem_cons.mpr ⟨lw_p62, List.forall_mem_cons.mpr ⟨lw_p63, fun _ h => absurd h List.not_mem_nil⟩⟩⟩⟩⟩⟩⟩⟩⟩⟩⟩⟩⟩⟩⟩⟩
theorem lw_p64 : lw_okq (⟨"SeamPullModel", "sizeOf", "(II)I"⟩, 43) := ⟨⟨by decide +kernel, by decide +kernel⟩, List.mem_of_getElem? (i := 901) (by decide +kernel), List.mem_of_getElem? (i := 1323) (by decide +kernel), List.mem_of_getElem? (i := 1324) (by decide +kernel)⟩
theorem lw_p65 : lw_okq (⟨"SeamPullModel", "flameSize", "(I)I"⟩, 43) := ⟨⟨by decide +kernel, by decide +kernel⟩, List.mem_of_getElem? (i := 901) (by decide +kernel), List.mem_of_getElem? (i := 1327) (by decide +kernel), List.mem_of_getElem? (i := 1328) (by decide +kernel)⟩
theorem lw_p66 : lw_okq (⟨"SeamPullModel", "began", "(I)V"⟩, 43) := ⟨⟨by decide +kernel, by decide +kernel⟩, List.mem_of_getElem? (i := 901) (by decide +kernel), List.mem_of_getElem? (i := 1331) (by decide +kernel), List.mem_of_getElem? (i := 1332) (by decide +kernel)⟩
theorem lw_p67 : lw_okq (⟨"SeamPullModel", "markOf", "(II)I"⟩, 43) := ⟨⟨by decide +kernel, by decide +kernel⟩, List.mem_of_getElem? (i := 901) (by decide +kernel), List.mem_of_getElem? (i := 1335) (by decide +kernel), List.mem_of_getElem? (i := 1336) (by decide +kernel)⟩
def lw_privs_5 : List (MethodName × Nat) := [(⟨"SeamPullModel", "sizeOf", "(II)I"⟩, 43), (⟨"SeamPullModel", "flameSize", "(I)I"⟩, 43), (⟨"SeamPullModel", "began", "(I)V"⟩, 43), (⟨"SeamPullModel", "markOf", "(II)I"⟩, 43)]
theorem lw_r5 : ∀ q ∈ lw_privs_5, lw_okq q := List.forall_mem_cons.mpr ⟨lw_p64, List.forall_mem_cons.mpr ⟨lw_p65, List.forall_mem_cons.mpr ⟨lw_p66, List.forall_mem_cons.mpr ⟨lw_p67, fun _ h => absurd h List.not_mem_nil⟩⟩⟩⟩
def lw_privs : List (MethodName × Nat) := lw_privs_1 ++ (lw_privs_2 ++ (lw_privs_3 ++ (lw_privs_4 ++ (lw_privs_5))))
def lw_tbl : List Cond := k2_sels lw_privs ++ tables_1
theorem lw_privs_ok : ∀ q ∈ lw_privs, lw_okq q := by
  show ∀ q ∈ lw_privs_1 ++ (lw_privs_2 ++ (lw_privs_3 ++ (lw_privs_4 ++ (lw_privs_5)))), lw_okq q
  exact List.forall_mem_append.mpr ⟨lw_r1, List.forall_mem_append.mpr ⟨lw_r2, List.forall_mem_append.mpr ⟨lw_r3, List.forall_mem_append.mpr ⟨lw_r4, lw_r5⟩⟩⟩⟩
-- ===== end of PART A; then your names; then what follows =====
end
section
/-! ===== BEGIN printed: names, fields, word lists, decode rows ===== -/
def RX0 : String := "SeamPull$Asks"
def TX0 : u_T := fun k => match k with
  | 0 => ("SeamPull$Asks", "begun", "[I", true)
  | _ => ("SeamPull$Asks", "many", "I", false)
def tyX0 : Nat → FieldType := fun k => match k with
  | 0 => .array .int
  | _ => .int
abbrev wsX00 : List Cond := u_ws RX0 TX0 2
theorem nmX0 : ∀ a, a < 2 → ∀ b, b < 2 → a ≠ b → (TX0 a).2.1 ≠ (TX0 b).2.1 := by decide +kernel
theorem tyX0_ok : ∀ k, k < 2 → parseFieldDescriptor (TX0 k).2.2.1 = some (tyX0 k) := by decide +kernel
abbrev cX0_init : ByteArray := prog_2_method_1_code
def yX0_init : MethodName := ⟨RX0, "<init>", "()V"⟩
abbrev cX0_hasKind : ByteArray := prog_2_method_2_code
def yX0_hasKind : MethodName := ⟨RX0, "hasKind", "(I)Z"⟩
abbrev cX0_isOfKind : ByteArray := prog_2_method_3_code
def yX0_isOfKind : MethodName := ⟨RX0, "isOfKind", "(II)Z"⟩
abbrev cX0_bodyFor : ByteArray := prog_2_method_4_code
def yX0_bodyFor : MethodName := ⟨RX0, "bodyFor", "(II)I"⟩
abbrev cX0_answerOf : ByteArray := prog_2_method_5_code
def yX0_answerOf : MethodName := ⟨RX0, "answerOf", "(LSeamPull$Plan;II)I"⟩
abbrev cX0_asked : ByteArray := prog_2_method_6_code
def yX0_asked : MethodName := ⟨RX0, "asked", "(LSeamPull$Plan;III)I"⟩
abbrev cX0_given : ByteArray := prog_2_method_7_code
def yX0_given : MethodName := ⟨RX0, "given", "(LSeamPull$Plan;III)I"⟩
abbrev cX0_leave : ByteArray := prog_2_method_8_code
def yX0_leave : MethodName := ⟨RX0, "leave", "(I)V"⟩
abbrev cX0_traced : ByteArray := prog_2_method_9_code
def yX0_traced : MethodName := ⟨RX0, "traced", "(I)I"⟩
def RX1 : String := "SeamPull$Beforehand"
def TX1 : u_T := fun k => match k with
  | 0 => ("SeamPull$Beforehand", "bends", "[I", true)
  | 1 => ("SeamPull$Beforehand", "alike", "[I", true)
  | _ => ("SeamPull$Beforehand", "known", "Z", false)
def tyX1 : Nat → FieldType := fun k => match k with
  | 0 => .array .int
  | 1 => .array .int
  | _ => .boolean
abbrev wsX10 : List Cond := u_ws RX1 TX1 3
theorem nmX1 : ∀ a, a < 3 → ∀ b, b < 3 → a ≠ b → (TX1 a).2.1 ≠ (TX1 b).2.1 := by decide +kernel
theorem tyX1_ok : ∀ k, k < 3 → parseFieldDescriptor (TX1 k).2.2.1 = some (tyX1 k) := by decide +kernel
abbrev cX1_init : ByteArray := prog_3_method_1_code
def yX1_init : MethodName := ⟨RX1, "<init>", "()V"⟩
abbrev cX1_forget : ByteArray := prog_3_method_2_code
def yX1_forget : MethodName := ⟨RX1, "forget", "()V"⟩
abbrev cX1_look : ByteArray := prog_3_method_3_code
def yX1_look : MethodName := ⟨RX1, "look", "(LSeamPull$Plan;LSeamPull$Panel;)V"⟩
abbrev cX1_keepWhereFlat : ByteArray := prog_3_method_4_code
def yX1_keepWhereFlat : MethodName := ⟨RX1, "keepWhereFlat", "(LSeamPull$Panel;I)V"⟩
def RX2 : String := "SeamPull$Panel"
def TX2 : u_T := fun k => match k with
  | 0 => ("SeamPull$Panel", "heat", "[I", true)
  | 1 => ("SeamPull$Panel", "heatTime", "[I", true)
  | 2 => ("SeamPull$Panel", "hold", "[I", true)
  | 3 => ("SeamPull$Panel", "bend", "[I", true)
  | 4 => ("SeamPull$Panel", "spring", "[I", true)
  | 5 => ("SeamPull$Panel", "shrunk", "[I", true)
  | 6 => ("SeamPull$Panel", "clampBits", "I", false)
  | 7 => ("SeamPull$Panel", "cells", "I", false)
  | 8 => ("SeamPull$Panel", "minutes", "I", false)
  | _ => ("SeamPull$Panel", "allShrunk", "I", false)
def tyX2 : Nat → FieldType := fun k => match k with
  | 0 => .array .int
  | 1 => .array .int
  | 2 => .array .int
  | 3 => .array .int
  | 4 => .array .int
  | 5 => .array .int
  | 6 => .int
  | 7 => .int
  | 8 => .int
  | _ => .int
abbrev wsX20 : List Cond := u_ws RX2 TX2 10
theorem nmX2 : ∀ a, a < 10 → ∀ b, b < 10 → a ≠ b → (TX2 a).2.1 ≠ (TX2 b).2.1 := by decide +kernel
theorem tyX2_ok : ∀ k, k < 10 → parseFieldDescriptor (TX2 k).2.2.1 = some (tyX2 k) := by decide +kernel
abbrev cX2_init : ByteArray := prog_4_method_1_code
def yX2_init : MethodName := ⟨RX2, "<init>", "()V"⟩
abbrev cX2_begin : ByteArray := prog_4_method_2_code
def yX2_begin : MethodName := ⟨RX2, "begin", "(I[I)V"⟩
abbrev cX2_becomeAs : ByteArray := prog_4_method_3_code
def yX2_becomeAs : MethodName := ⟨RX2, "becomeAs", "(LSeamPull$Panel;)V"⟩
abbrev cX2_go : ByteArray := prog_4_method_4_code
def yX2_go : MethodName := ⟨RX2, "go", "(LSeamPull$Plan;[I[II)V"⟩
abbrev cX2_doSeam : ByteArray := prog_4_method_5_code
def yX2_doSeam : MethodName := ⟨RX2, "doSeam", "(LSeamPull$Plan;I)V"⟩
abbrev cX2_doStep : ByteArray := prog_4_method_6_code
def yX2_doStep : MethodName := ⟨RX2, "doStep", "(III)V"⟩
abbrev cX2_effectOf : ByteArray := prog_4_method_7_code
def yX2_effectOf : MethodName := ⟨RX2, "effectOf", "(II)I"⟩
abbrev cX2_shrinkageOf : ByteArray := prog_4_method_8_code
def yX2_shrinkageOf : MethodName := ⟨RX2, "shrinkageOf", "(III)I"⟩
abbrev cX2_heatOfStep : ByteArray := prog_4_method_9_code
def yX2_heatOfStep : MethodName := ⟨RX2, "heatOfStep", "(II)I"⟩
abbrev cX2_holdOfStep : ByteArray := prog_4_method_10_code
def yX2_holdOfStep : MethodName := ⟨RX2, "holdOfStep", "(I)I"⟩
abbrev cX2_freeOne : ByteArray := prog_4_method_11_code
def yX2_freeOne : MethodName := ⟨RX2, "freeOne", "(I)V"⟩
abbrev cX2_freeAll : ByteArray := prog_4_method_12_code
def yX2_freeAll : MethodName := ⟨RX2, "freeAll", "()V"⟩
abbrev cX2_has : ByteArray := prog_4_method_13_code
def yX2_has : MethodName := ⟨RX2, "has", "(I)Z"⟩
abbrev cX2_holds : ByteArray := prog_4_method_14_code
def yX2_holds : MethodName := ⟨RX2, "holds", "(I)Z"⟩
abbrev cX2_isClamped : ByteArray := prog_4_method_15_code
def yX2_isClamped : MethodName := ⟨RX2, "isClamped", "(I)Z"⟩
abbrev cX2_cool : ByteArray := prog_4_method_16_code
def yX2_cool : MethodName := ⟨RX2, "cool", "(I)V"⟩
abbrev cX2_heatOf : ByteArray := prog_4_method_17_code
def yX2_heatOf : MethodName := ⟨RX2, "heatOf", "(I)I"⟩
abbrev cX2_pullOf : ByteArray := prog_4_method_18_code
def yX2_pullOf : MethodName := ⟨RX2, "pullOf", "(I)I"⟩
abbrev cX2_firstAbove : ByteArray := prog_4_method_19_code
def yX2_firstAbove : MethodName := ⟨RX2, "firstAbove", "(I)I"⟩
abbrev cX2_heightAt : ByteArray := prog_4_method_20_code
def yX2_heightAt : MethodName := ⟨RX2, "heightAt", "(I)I"⟩
abbrev cX2_off : ByteArray := prog_4_method_21_code
def yX2_off : MethodName := ⟨RX2, "off", "()I"⟩
def RX3 : String := "SeamPull$Plan"
def TX3 : u_T := fun k => match k with
  | 0 => ("SeamPull$Plan", "cells", "I", false)
  | 1 => ("SeamPull$Plan", "seams", "I", false)
  | 2 => ("SeamPull$Plan", "acts", "I", false)
  | 3 => ("SeamPull$Plan", "befores", "I", false)
  | 4 => ("SeamPull$Plan", "actKind", "[I", true)
  | 5 => ("SeamPull$Plan", "actPlace", "[I", true)
  | 6 => ("SeamPull$Plan", "actStrength", "[I", true)
  | 7 => ("SeamPull$Plan", "actSeam", "[I", true)
  | 8 => ("SeamPull$Plan", "seamEnd", "[I", true)
  | _ => ("SeamPull$Plan", "needs", "[I", true)
def tyX3 : Nat → FieldType := fun k => match k with
  | 0 => .int
  | 1 => .int
  | 2 => .int
  | 3 => .int
  | 4 => .array .int
  | 5 => .array .int
  | 6 => .array .int
  | 7 => .array .int
  | 8 => .array .int
  | _ => .array .int
abbrev wsX30 : List Cond := u_ws RX3 TX3 10
theorem nmX3 : ∀ a, a < 10 → ∀ b, b < 10 → a ≠ b → (TX3 a).2.1 ≠ (TX3 b).2.1 := by decide +kernel
theorem tyX3_ok : ∀ k, k < 10 → parseFieldDescriptor (TX3 k).2.2.1 = some (tyX3 k) := by decide +kernel
abbrev cX3_init : ByteArray := prog_5_method_1_code
def yX3_init : MethodName := ⟨RX3, "<init>", "()V"⟩
abbrev cX3_clear : ByteArray := prog_5_method_2_code
def yX3_clear : MethodName := ⟨RX3, "clear", "()V"⟩
abbrev cX3_isNone : ByteArray := prog_5_method_3_code
def yX3_isNone : MethodName := ⟨RX3, "isNone", "()Z"⟩
abbrev cX3_hasCell : ByteArray := prog_5_method_4_code
def yX3_hasCell : MethodName := ⟨RX3, "hasCell", "(I)Z"⟩
abbrev cX3_hasSeam : ByteArray := prog_5_method_5_code
def yX3_hasSeam : MethodName := ⟨RX3, "hasSeam", "(I)Z"⟩
abbrev cX3_hasAct : ByteArray := prog_5_method_6_code
def yX3_hasAct : MethodName := ⟨RX3, "hasAct", "(I)Z"⟩
abbrev cX3_isStep : ByteArray := prog_5_method_7_code
def yX3_isStep : MethodName := ⟨RX3, "isStep", "(I)Z"⟩
abbrev cX3_stepKind : ByteArray := prog_5_method_8_code
def yX3_stepKind : MethodName := ⟨RX3, "stepKind", "(I)I"⟩
abbrev cX3_addAct : ByteArray := prog_5_method_9_code
def yX3_addAct : MethodName := ⟨RX3, "addAct", "(III)V"⟩
abbrev cX3_endSeam : ByteArray := prog_5_method_10_code
def yX3_endSeam : MethodName := ⟨RX3, "endSeam", "()V"⟩
abbrev cX3_addBefore : ByteArray := prog_5_method_11_code
def yX3_addBefore : MethodName := ⟨RX3, "addBefore", "(II)V"⟩
abbrev cX3_firstAct : ByteArray := prog_5_method_12_code
def yX3_firstAct : MethodName := ⟨RX3, "firstAct", "(I)I"⟩
abbrev cX3_endOfActs : ByteArray := prog_5_method_13_code
def yX3_endOfActs : MethodName := ⟨RX3, "endOfActs", "(I)I"⟩
abbrev cX3_mayFollow : ByteArray := prog_5_method_14_code
def yX3_mayFollow : MethodName := ⟨RX3, "mayFollow", "(II)Z"⟩
def RX4 : String := "SeamPull$Reader"
def TX4 : u_T := fun k => match k with
  | 0 => ("SeamPull$Reader", "tape", "LSeamPull$Tape;", true)
  | _ => ("SeamPull$Reader", "taken", "I", false)
def tyX4 : Nat → FieldType := fun k => match k with
  | 0 => .object "SeamPull$Tape"
  | _ => .int
abbrev wsX40 : List Cond := u_ws RX4 TX4 2
theorem nmX4 : ∀ a, a < 2 → ∀ b, b < 2 → a ≠ b → (TX4 a).2.1 ≠ (TX4 b).2.1 := by decide +kernel
theorem tyX4_ok : ∀ k, k < 2 → parseFieldDescriptor (TX4 k).2.2.1 = some (tyX4 k) := by decide +kernel
abbrev cX4_init : ByteArray := prog_6_method_1_code
def yX4_init : MethodName := ⟨RX4, "<init>", "(LSeamPull$Tape;)V"⟩
abbrev cX4_readInto : ByteArray := prog_6_method_2_code
def yX4_readInto : MethodName := ⟨RX4, "readInto", "(LSeamPull$Plan;)I"⟩
abbrev cX4_takePanel : ByteArray := prog_6_method_3_code
def yX4_takePanel : MethodName := ⟨RX4, "takePanel", "(LSeamPull$Plan;)I"⟩
abbrev cX4_takeSeam : ByteArray := prog_6_method_4_code
def yX4_takeSeam : MethodName := ⟨RX4, "takeSeam", "(LSeamPull$Plan;)I"⟩
abbrev cX4_takeAct : ByteArray := prog_6_method_5_code
def yX4_takeAct : MethodName := ⟨RX4, "takeAct", "(LSeamPull$Plan;I)I"⟩
abbrev cX4_takeBefore : ByteArray := prog_6_method_6_code
def yX4_takeBefore : MethodName := ⟨RX4, "takeBefore", "(LSeamPull$Plan;)I"⟩
abbrev cX4_takeNumber : ByteArray := prog_6_method_7_code
def yX4_takeNumber : MethodName := ⟨RX4, "takeNumber", "(II)I"⟩
abbrev cX4_takeSign : ByteArray := prog_6_method_8_code
def yX4_takeSign : MethodName := ⟨RX4, "takeSign", "()I"⟩
def RX5 : String := "SeamPull$Search"
def TX5 : u_T := fun k => match k with
  | 0 => ("SeamPull$Search", "panels", "[LSeamPull$Panel;", true)
  | 1 => ("SeamPull$Search", "tried", "[I", true)
  | 2 => ("SeamPull$Search", "nearest", "[I", true)
  | 3 => ("SeamPull$Search", "ways", "[I", true)
  | 4 => ("SeamPull$Search", "known", "Z", false)
  | 5 => ("SeamPull$Search", "fits", "Z", false)
  | _ => ("SeamPull$Search", "leastOff", "I", false)
def tyX5 : Nat → FieldType := fun k => match k with
  | 0 => .array (.object "SeamPull$Panel")
  | 1 => .array .int
  | 2 => .array .int
  | 3 => .array .int
  | 4 => .boolean
  | 5 => .boolean
  | _ => .int
abbrev wsX50 : List Cond := u_ws RX5 TX5 7
theorem nmX5 : ∀ a, a < 7 → ∀ b, b < 7 → a ≠ b → (TX5 a).2.1 ≠ (TX5 b).2.1 := by decide +kernel
theorem tyX5_ok : ∀ k, k < 7 → parseFieldDescriptor (TX5 k).2.2.1 = some (tyX5 k) := by decide +kernel
abbrev cX5_init : ByteArray := prog_7_method_1_code
def yX5_init : MethodName := ⟨RX5, "<init>", "()V"⟩
abbrev cX5_forget : ByteArray := prog_7_method_2_code
def yX5_forget : MethodName := ⟨RX5, "forget", "()V"⟩
abbrev cX5_look : ByteArray := prog_7_method_3_code
def yX5_look : MethodName := ⟨RX5, "look", "(LSeamPull$Plan;[I)V"⟩
abbrev cX5_tryFrom : ByteArray := prog_7_method_4_code
def yX5_tryFrom : MethodName := ⟨RX5, "tryFrom", "(LSeamPull$Plan;II)V"⟩
abbrev cX5_weigh : ByteArray := prog_7_method_5_code
def yX5_weigh : MethodName := ⟨RX5, "weigh", "(LSeamPull$Panel;I)V"⟩
abbrev cX5_howManyFit : ByteArray := prog_7_method_6_code
def yX5_howManyFit : MethodName := ⟨RX5, "howManyFit", "(LSeamPull$Plan;)I"⟩
def RX6 : String := "SeamPull$Shelf"
def TX6 : u_T := fun k => match k with
  | 0 => ("SeamPull$Shelf", "lanes", "[I", true)
  | 1 => ("SeamPull$Shelf", "sizes", "[I", true)
  | _ => ("SeamPull$Shelf", "items", "[[I", true)
def tyX6 : Nat → FieldType := fun k => match k with
  | 0 => .array .int
  | 1 => .array .int
  | _ => .array (.array .int)
abbrev wsX60 : List Cond := u_ws RX6 TX6 3
theorem nmX6 : ∀ a, a < 3 → ∀ b, b < 3 → a ≠ b → (TX6 a).2.1 ≠ (TX6 b).2.1 := by decide +kernel
theorem tyX6_ok : ∀ k, k < 3 → parseFieldDescriptor (TX6 k).2.2.1 = some (tyX6 k) := by decide +kernel
abbrev cX6_init : ByteArray := prog_8_method_1_code
def yX6_init : MethodName := ⟨RX6, "<init>", "()V"⟩
abbrev cX6_hasNumber : ByteArray := prog_8_method_2_code
def yX6_hasNumber : MethodName := ⟨RX6, "hasNumber", "(I)Z"⟩
abbrev cX6_isMissing : ByteArray := prog_8_method_3_code
def yX6_isMissing : MethodName := ⟨RX6, "isMissing", "(I)Z"⟩
abbrev cX6_howMany : ByteArray := prog_8_method_4_code
def yX6_howMany : MethodName := ⟨RX6, "howMany", "()I"⟩
abbrev cX6_findingAt : ByteArray := prog_8_method_5_code
def yX6_findingAt : MethodName := ⟨RX6, "findingAt", "(III)I"⟩
abbrev cX6_findingBetween : ByteArray := prog_8_method_6_code
def yX6_findingBetween : MethodName := ⟨RX6, "findingBetween", "(II)I"⟩
abbrev cX6_lay : ByteArray := prog_8_method_7_code
def yX6_lay : MethodName := ⟨RX6, "lay", "(III)V"⟩
abbrev cX6_takeAway : ByteArray := prog_8_method_8_code
def yX6_takeAway : MethodName := ⟨RX6, "takeAway", "(I)I"⟩
abbrev cX6_put : ByteArray := prog_8_method_9_code
def yX6_put : MethodName := ⟨RX6, "put", "(III)I"⟩
abbrev cX6_narrowed : ByteArray := prog_8_method_10_code
def yX6_narrowed : MethodName := ⟨RX6, "narrowed", "(II)I"⟩
abbrev cX6_carry : ByteArray := prog_8_method_11_code
def yX6_carry : MethodName := ⟨RX6, "carry", "(IIIII)V"⟩
abbrev cX6_itemAt : ByteArray := prog_8_method_12_code
def yX6_itemAt : MethodName := ⟨RX6, "itemAt", "(II)I"⟩
abbrev cX6_tellsOrder : ByteArray := prog_8_method_13_code
def yX6_tellsOrder : MethodName := ⟨RX6, "tellsOrder", "(III)Z"⟩
abbrev cX6_allWithin : ByteArray := prog_8_method_14_code
def yX6_allWithin : MethodName := ⟨RX6, "allWithin", "(IIII)Z"⟩
def RX7 : String := "SeamPull$Tape"
def TX7 : u_T := fun k => match k with
  | 0 => ("SeamPull$Tape", "bytes", "[B", true)
  | 1 => ("SeamPull$Tape", "size", "I", false)
  | 2 => ("SeamPull$Tape", "start", "I", false)
  | 3 => ("SeamPull$Tape", "end", "I", false)
  | _ => ("SeamPull$Tape", "sort", "I", false)
def tyX7 : Nat → FieldType := fun k => match k with
  | 0 => .array .byte
  | 1 => .int
  | 2 => .int
  | 3 => .int
  | _ => .int
abbrev wsX70 : List Cond := u_ws RX7 TX7 5
theorem nmX7 : ∀ a, a < 5 → ∀ b, b < 5 → a ≠ b → (TX7 a).2.1 ≠ (TX7 b).2.1 := by decide +kernel
theorem tyX7_ok : ∀ k, k < 5 → parseFieldDescriptor (TX7 k).2.2.1 = some (tyX7 k) := by decide +kernel
abbrev cX7_init : ByteArray := prog_9_method_1_code
def yX7_init : MethodName := ⟨RX7, "<init>", "()V"⟩
abbrev cX7_hasRoom : ByteArray := prog_9_method_2_code
def yX7_hasRoom : MethodName := ⟨RX7, "hasRoom", "(I)Z"⟩
abbrev cX7_append : ByteArray := prog_9_method_3_code
def yX7_append : MethodName := ⟨RX7, "append", "(JI)I"⟩
abbrev cX7_empty : ByteArray := prog_9_method_4_code
def yX7_empty : MethodName := ⟨RX7, "empty", "()V"⟩
abbrev cX7_tokenPlace : ByteArray := prog_9_method_5_code
def yX7_tokenPlace : MethodName := ⟨RX7, "tokenPlace", "()I"⟩
abbrev cX7_toFirst : ByteArray := prog_9_method_6_code
def yX7_toFirst : MethodName := ⟨RX7, "toFirst", "()V"⟩
abbrev cX7_toNext : ByteArray := prog_9_method_7_code
def yX7_toNext : MethodName := ⟨RX7, "toNext", "()V"⟩
abbrev cX7_sortOf : ByteArray := prog_9_method_8_code
def yX7_sortOf : MethodName := ⟨RX7, "sortOf", "(I)I"⟩
abbrev cX7_spells : ByteArray := prog_9_method_9_code
def yX7_spells : MethodName := ⟨RX7, "spells", "(Ljava/lang/String;)Z"⟩
abbrev cX7_spelling : ByteArray := prog_9_method_10_code
def yX7_spelling : MethodName := ⟨RX7, "spelling", "(I)Ljava/lang/String;"⟩
abbrev cX7_atEnd : ByteArray := prog_9_method_11_code
def yX7_atEnd : MethodName := ⟨RX7, "atEnd", "()Z"⟩
abbrev cX7_atWord : ByteArray := prog_9_method_12_code
def yX7_atWord : MethodName := ⟨RX7, "atWord", "(I)Z"⟩
abbrev cX7_actHere : ByteArray := prog_9_method_13_code
def yX7_actHere : MethodName := ⟨RX7, "actHere", "()I"⟩
abbrev cX7_atNumber : ByteArray := prog_9_method_14_code
def yX7_atNumber : MethodName := ⟨RX7, "atNumber", "()Z"⟩
abbrev cX7_numberHere : ByteArray := prog_9_method_15_code
def yX7_numberHere : MethodName := ⟨RX7, "numberHere", "()I"⟩
abbrev cX7_atSign : ByteArray := prog_9_method_16_code
def yX7_atSign : MethodName := ⟨RX7, "atSign", "()Z"⟩
def RX8 : String := "SeamPull"
def TX8 : u_T := fun k => match k with
  | 0 => ("SeamPull", "shelf", "LSeamPull$Shelf;", true)
  | 1 => ("SeamPull", "tape", "LSeamPull$Tape;", true)
  | 2 => ("SeamPull", "reader", "LSeamPull$Reader;", true)
  | 3 => ("SeamPull", "setTo", "[I", true)
  | 4 => ("SeamPull", "order", "[I", true)
  | 5 => ("SeamPull", "row", "[I", true)
  | 6 => ("SeamPull", "latest", "LSeamPull$Panel;", true)
  | 7 => ("SeamPull", "trial", "LSeamPull$Panel;", true)
  | 8 => ("SeamPull", "search", "LSeamPull$Search;", true)
  | 9 => ("SeamPull", "ahead", "LSeamPull$Beforehand;", true)
  | 10 => ("SeamPull", "asks", "LSeamPull$Asks;", true)
  | 11 => ("SeamPull", "plan", "LSeamPull$Plan;", false)
  | 12 => ("SeamPull", "draft", "LSeamPull$Plan;", false)
  | 13 => ("SeamPull", "ran", "Z", false)
  | 14 => ("SeamPull", "latestFault", "I", false)
  | _ => ("SeamPull", "latestFinding", "I", false)
def tyX8 : Nat → FieldType := fun k => match k with
  | 0 => .object "SeamPull$Shelf"
  | 1 => .object "SeamPull$Tape"
  | 2 => .object "SeamPull$Reader"
  | 3 => .array .int
  | 4 => .array .int
  | 5 => .array .int
  | 6 => .object "SeamPull$Panel"
  | 7 => .object "SeamPull$Panel"
  | 8 => .object "SeamPull$Search"
  | 9 => .object "SeamPull$Beforehand"
  | 10 => .object "SeamPull$Asks"
  | 11 => .object "SeamPull$Plan"
  | 12 => .object "SeamPull$Plan"
  | 13 => .boolean
  | 14 => .int
  | _ => .int
abbrev wsX80 : List Cond := u_ws RX8 TX8 16
theorem nmX8 : ∀ a, a < 16 → ∀ b, b < 16 → a ≠ b → (TX8 a).2.1 ≠ (TX8 b).2.1 := by decide +kernel
theorem tyX8_ok : ∀ k, k < 16 → parseFieldDescriptor (TX8 k).2.2.1 = some (tyX8 k) := by decide +kernel
abbrev cX8_init : ByteArray := prog_1_method_1_code
def yX8_init : MethodName := ⟨RX8, "<init>", "()V"⟩
abbrev cX8_sheet : ByteArray := prog_1_method_2_code
def yX8_sheet : MethodName := ⟨RX8, "sheet", "(III)I"⟩
abbrev cX8_set : ByteArray := prog_1_method_3_code
def yX8_set : MethodName := ⟨RX8, "set", "(III)I"⟩
abbrev cX8_copy : ByteArray := prog_1_method_4_code
def yX8_copy : MethodName := ⟨RX8, "copy", "(IIIII)I"⟩
abbrev cX8_drop : ByteArray := prog_1_method_5_code
def yX8_drop : MethodName := ⟨RX8, "drop", "(I)I"⟩
abbrev cX8_feed : ByteArray := prog_1_method_6_code
def yX8_feed : MethodName := ⟨RX8, "feed", "(JI)I"⟩
abbrev cX8_plan : ByteArray := prog_1_method_7_code
def yX8_plan : MethodName := ⟨RX8, "plan", "()I"⟩
abbrev cX8_beginPlan : ByteArray := prog_1_method_8_code
def yX8_beginPlan : MethodName := ⟨RX8, "beginPlan", "()V"⟩
abbrev cX8_fault : ByteArray := prog_1_method_9_code
def yX8_fault : MethodName := ⟨RX8, "fault", "()I"⟩
abbrev cX8_act : ByteArray := prog_1_method_10_code
def yX8_act : MethodName := ⟨RX8, "act", "(II)I"⟩
abbrev cX8_open : ByteArray := prog_1_method_11_code
def yX8_open : MethodName := ⟨RX8, "open", "(II)I"⟩
abbrev cX8_run : ByteArray := prog_1_method_12_code
def yX8_run : MethodName := ⟨RX8, "run", "(II)I"⟩
abbrev cX8_runs : ByteArray := prog_1_method_13_code
def yX8_runs : MethodName := ⟨RX8, "runs", "()I"⟩
abbrev cX8_standByOrder : ByteArray := prog_1_method_14_code
def yX8_standByOrder : MethodName := ⟨RX8, "standByOrder", "()I"⟩
abbrev cX8_cell : ByteArray := prog_1_method_15_code
def yX8_cell : MethodName := ⟨RX8, "cell", "(II)I"⟩
abbrev cX8_height : ByteArray := prog_1_method_16_code
def yX8_height : MethodName := ⟨RX8, "height", "(I)I"⟩
abbrev cX8_minutes : ByteArray := prog_1_method_17_code
def yX8_minutes : MethodName := ⟨RX8, "minutes", "()I"⟩
abbrev cX8_gives : ByteArray := prog_1_method_18_code
def yX8_gives : MethodName := ⟨RX8, "gives", "(I)I"⟩
abbrev cX8_best : ByteArray := prog_1_method_19_code
def yX8_best : MethodName := ⟨RX8, "best", "(I)I"⟩
abbrev cX8_orders : ByteArray := prog_1_method_20_code
def yX8_orders : MethodName := ⟨RX8, "orders", "()I"⟩
abbrev cX8_beforehand : ByteArray := prog_1_method_21_code
def yX8_beforehand : MethodName := ⟨RX8, "beforehand", "(I)I"⟩
abbrev cX8_spots : ByteArray := prog_1_method_22_code
def yX8_spots : MethodName := ⟨RX8, "spots", "(II)I"⟩
abbrev cX8_drawDown : ByteArray := prog_1_method_23_code
def yX8_drawDown : MethodName := ⟨RX8, "drawDown", "(III)Z"⟩
abbrev cX8_spotAt : ByteArray := prog_1_method_24_code
def yX8_spotAt : MethodName := ⟨RX8, "spotAt", "(II)V"⟩
abbrev cX8_crack : ByteArray := prog_1_method_25_code
def yX8_crack : MethodName := ⟨RX8, "crack", "(I)I"⟩
abbrev cX8_warm : ByteArray := prog_1_method_26_code
def yX8_warm : MethodName := ⟨RX8, "warm", "()I"⟩
abbrev cX8_wire : ByteArray := prog_1_method_27_code
def yX8_wire : MethodName := ⟨RX8, "wire", "(III)I"⟩
abbrev cX8_wireBend : ByteArray := prog_1_method_28_code
def yX8_wireBend : MethodName := ⟨RX8, "wireBend", "(III)I"⟩
abbrev cX8_steelOf : ByteArray := prog_1_method_29_code
def yX8_steelOf : MethodName := ⟨RX8, "steelOf", "(II)I"⟩
abbrev cX8_isSteel : ByteArray := prog_1_method_30_code
def yX8_isSteel : MethodName := ⟨RX8, "isSteel", "(III)Z"⟩
abbrev cX8_kind : ByteArray := prog_1_method_31_code
def yX8_kind : MethodName := ⟨RX8, "kind", "(I)I"⟩
abbrev cX8_as : ByteArray := prog_1_method_32_code
def yX8_as : MethodName := ⟨RX8, "as", "(II)I"⟩
abbrev cX8_ask : ByteArray := prog_1_method_33_code
def yX8_ask : MethodName := ⟨RX8, "ask", "(II)I"⟩
abbrev cX8_trace : ByteArray := prog_1_method_34_code
def yX8_trace : MethodName := ⟨RX8, "trace", "(I)I"⟩
abbrev cX8_count : ByteArray := prog_1_method_35_code
def yX8_count : MethodName := ⟨RX8, "count", "(I)I"⟩
abbrev cX8_status : ByteArray := prog_1_method_36_code
def yX8_status : MethodName := ⟨RX8, "status", "()I"⟩
abbrev cX8_found : ByteArray := prog_1_method_37_code
def yX8_found : MethodName := ⟨RX8, "found", "(I)I"⟩
abbrev cX8_fine : ByteArray := prog_1_method_38_code
def yX8_fine : MethodName := ⟨RX8, "fine", "(I)I"⟩
def RX9 : String := "SeamPullModel"
def TX9 : u_T := fun k => match k with
  | 0 => ("SeamPullModel", "thrown", "I", false)
  | 1 => ("SeamPullModel", "status", "I", false)
  | 2 => ("SeamPullModel", "lane", "[I", true)
  | 3 => ("SeamPullModel", "many", "[I", true)
  | 4 => ("SeamPullModel", "item", "[I", true)
  | 5 => ("SeamPullModel", "cells", "I", false)
  | 6 => ("SeamPullModel", "seams", "I", false)
  | 7 => ("SeamPullModel", "acts", "I", false)
  | 8 => ("SeamPullModel", "befores", "I", false)
  | 9 => ("SeamPullModel", "act", "[I", true)
  | 10 => ("SeamPullModel", "ahead", "[I", true)
  | 11 => ("SeamPullModel", "behind", "[I", true)
  | 12 => ("SeamPullModel", "newCells", "I", false)
  | 13 => ("SeamPullModel", "newSeams", "I", false)
  | 14 => ("SeamPullModel", "newActs", "I", false)
  | 15 => ("SeamPullModel", "newBefores", "I", false)
  | 16 => ("SeamPullModel", "newAct", "[I", true)
  | 17 => ("SeamPullModel", "newAhead", "[I", true)
  | 18 => ("SeamPullModel", "newBehind", "[I", true)
  | 19 => ("SeamPullModel", "tape", "[I", true)
  | 20 => ("SeamPullModel", "taped", "I", false)
  | 21 => ("SeamPullModel", "latest", "I", false)
  | 22 => ("SeamPullModel", "length", "I", false)
  | 23 => ("SeamPullModel", "cursor", "I", false)
  | 24 => ("SeamPullModel", "token", "I", false)
  | 25 => ("SeamPullModel", "from", "I", false)
  | 26 => ("SeamPullModel", "till", "I", false)
  | 27 => ("SeamPullModel", "fault", "I", false)
  | 28 => ("SeamPullModel", "faultAt", "I", false)
  | 29 => ("SeamPullModel", "opened", "[I", true)
  | 30 => ("SeamPullModel", "lastOrder", "[I", true)
  | 31 => ("SeamPullModel", "isRun", "Z", false)
  | 32 => ("SeamPullModel", "now", "[I", true)
  | 33 => ("SeamPullModel", "spring", "[I", true)
  | 34 => ("SeamPullModel", "isClamped", "[Z", true)
  | 35 => ("SeamPullModel", "went", "I", false)
  | 36 => ("SeamPullModel", "left", "[I", true)
  | 37 => ("SeamPullModel", "leftMinutes", "I", false)
  | 38 => ("SeamPullModel", "begins", "[I", true)
  | 39 => ("SeamPullModel", "order", "[I", true)
  | 40 => ("SeamPullModel", "bestOrder", "[I", true)
  | 41 => ("SeamPullModel", "trace", "[I", true)
  | _ => ("SeamPullModel", "traced", "I", false)
def tyX9 : Nat → FieldType := fun k => match k with
  | 0 => .int
  | 1 => .int
  | 2 => .array .int
  | 3 => .array .int
  | 4 => .array .int
  | 5 => .int
  | 6 => .int
  | 7 => .int
  | 8 => .int
  | 9 => .array .int
  | 10 => .array .int
  | 11 => .array .int
  | 12 => .int
  | 13 => .int
  | 14 => .int
  | 15 => .int
  | 16 => .array .int
  | 17 => .array .int
  | 18 => .array .int
  | 19 => .array .int
  | 20 => .int
  | 21 => .int
  | 22 => .int
  | 23 => .int
  | 24 => .int
  | 25 => .int
  | 26 => .int
  | 27 => .int
  | 28 => .int
  | 29 => .array .int
  | 30 => .array .int
  | 31 => .boolean
  | 32 => .array .int
  | 33 => .array .int
  | 34 => .array .boolean
  | 35 => .int
  | 36 => .array .int
  | 37 => .int
  | 38 => .array .int
  | 39 => .array .int
  | 40 => .array .int
  | 41 => .array .int
  | _ => .int
abbrev wsX90 : List Cond := u_ws RX9 TX9 43
theorem nmX9 : ∀ a, a < 43 → ∀ b, b < 43 → a ≠ b → (TX9 a).2.1 ≠ (TX9 b).2.1 := by decide +kernel
theorem tyX9_ok : ∀ k, k < 43 → parseFieldDescriptor (TX9 k).2.2.1 = some (tyX9 k) := by decide +kernel
abbrev cX9_init : ByteArray := prog_11_method_1_code
def yX9_init : MethodName := ⟨RX9, "<init>", "()V"⟩
abbrev cX9_in : ByteArray := prog_11_method_3_code
def yX9_in : MethodName := ⟨RX9, "in", "(JJJ)Z"⟩
abbrev cX9_finding : ByteArray := prog_11_method_4_code
def yX9_finding : MethodName := ⟨RX9, "finding", "(I)I"⟩
abbrev cX9_isSheet : ByteArray := prog_11_method_5_code
def yX9_isSheet : MethodName := ⟨RX9, "isSheet", "(I)Z"⟩
abbrev cX9_sheet : ByteArray := prog_11_method_6_code
def yX9_sheet : MethodName := ⟨RX9, "sheet", "(III)I"⟩
abbrev cX9_set : ByteArray := prog_11_method_7_code
def yX9_set : MethodName := ⟨RX9, "set", "(III)I"⟩
abbrev cX9_copy : ByteArray := prog_11_method_8_code
def yX9_copy : MethodName := ⟨RX9, "copy", "(IIIII)I"⟩
abbrev cX9_drop : ByteArray := prog_11_method_9_code
def yX9_drop : MethodName := ⟨RX9, "drop", "(I)I"⟩
abbrev cX9_feed : ByteArray := prog_11_method_10_code
def yX9_feed : MethodName := ⟨RX9, "feed", "(JI)I"⟩
abbrev cX9_byteAt : ByteArray := prog_11_method_11_code
def yX9_byteAt : MethodName := ⟨RX9, "byteAt", "(I)I"⟩
abbrev cX9_isLetter : ByteArray := prog_11_method_12_code
def yX9_isLetter : MethodName := ⟨RX9, "isLetter", "(I)Z"⟩
abbrev cX9_isFigure : ByteArray := prog_11_method_13_code
def yX9_isFigure : MethodName := ⟨RX9, "isFigure", "(I)Z"⟩
abbrev cX9_next : ByteArray := prog_11_method_14_code
def yX9_next : MethodName := ⟨RX9, "next", "()V"⟩
abbrev cX9_bad : ByteArray := prog_11_method_15_code
def yX9_bad : MethodName := ⟨RX9, "bad", "(I)V"⟩
abbrev cX9_must : ByteArray := prog_11_method_16_code
def yX9_must : MethodName := ⟨RX9, "must", "(Z)V"⟩
abbrev cX9_word : ByteArray := prog_11_method_17_code
def yX9_word : MethodName := ⟨RX9, "word", "()J"⟩
abbrev cX9_numberIn : ByteArray := prog_11_method_18_code
def yX9_numberIn : MethodName := ⟨RX9, "numberIn", "(III)I"⟩
abbrev cX9_kindOfWord : ByteArray := prog_11_method_19_code
def yX9_kindOfWord : MethodName := ⟨RX9, "kindOfWord", "()I"⟩
abbrev cX9_mustEnd : ByteArray := prog_11_method_20_code
def yX9_mustEnd : MethodName := ⟨RX9, "mustEnd", "()V"⟩
abbrev cX9_readAct : ByteArray := prog_11_method_21_code
def yX9_readAct : MethodName := ⟨RX9, "readAct", "(I)V"⟩
abbrev cX9_readSeam : ByteArray := prog_11_method_22_code
def yX9_readSeam : MethodName := ⟨RX9, "readSeam", "()V"⟩
abbrev cX9_readBefore : ByteArray := prog_11_method_23_code
def yX9_readBefore : MethodName := ⟨RX9, "readBefore", "()V"⟩
abbrev cX9_plan : ByteArray := prog_11_method_24_code
def yX9_plan : MethodName := ⟨RX9, "plan", "()I"⟩
abbrev cX9_fault : ByteArray := prog_11_method_25_code
def yX9_fault : MethodName := ⟨RX9, "fault", "()I"⟩
abbrev cX9_isAct : ByteArray := prog_11_method_26_code
def yX9_isAct : MethodName := ⟨RX9, "isAct", "(I)Z"⟩
abbrev cX9_isCell : ByteArray := prog_11_method_27_code
def yX9_isCell : MethodName := ⟨RX9, "isCell", "(I)Z"⟩
abbrev cX9_act : ByteArray := prog_11_method_28_code
def yX9_act : MethodName := ⟨RX9, "act", "(II)I"⟩
abbrev cX9_open : ByteArray := prog_11_method_29_code
def yX9_open : MethodName := ⟨RX9, "open", "(II)I"⟩
abbrev cX9_minute : ByteArray := prog_11_method_30_code
def yX9_minute : MethodName := ⟨RX9, "minute", "()V"⟩
abbrev cX9_holds : ByteArray := prog_11_method_31_code
def yX9_holds : MethodName := ⟨RX9, "holds", "(I)Z"⟩
abbrev cX9_shrinks : ByteArray := prog_11_method_32_code
def yX9_shrinks : MethodName := ⟨RX9, "shrinks", "(III)I"⟩
abbrev cX9_step : ByteArray := prog_11_method_33_code
def yX9_step : MethodName := ⟨RX9, "step", "(III)V"⟩
abbrev cX9_free : ByteArray := prog_11_method_34_code
def yX9_free : MethodName := ⟨RX9, "free", "(I)V"⟩
abbrev cX9_doAct : ByteArray := prog_11_method_35_code
def yX9_doAct : MethodName := ⟨RX9, "doAct", "(I)V"⟩
abbrev cX9_go : ByteArray := prog_11_method_36_code
def yX9_go : MethodName := ⟨RX9, "go", "(I)V"⟩
abbrev cX9_heightBy : ByteArray := prog_11_method_37_code
def yX9_heightBy : MethodName := ⟨RX9, "heightBy", "([II)I"⟩
abbrev cX9_offBy : ByteArray := prog_11_method_38_code
def yX9_offBy : MethodName := ⟨RX9, "offBy", "()I"⟩
abbrev cX9_layOpened : ByteArray := prog_11_method_39_code
def yX9_layOpened : MethodName := ⟨RX9, "layOpened", "()V"⟩
abbrev cX9_stand : ByteArray := prog_11_method_40_code
def yX9_stand : MethodName := ⟨RX9, "stand", "()V"⟩
abbrev cX9_run : ByteArray := prog_11_method_41_code
def yX9_run : MethodName := ⟨RX9, "run", "(II)I"⟩
abbrev cX9_layNumbers : ByteArray := prog_11_method_42_code
def yX9_layNumbers : MethodName := ⟨RX9, "layNumbers", "()V"⟩
abbrev cX9_runs : ByteArray := prog_11_method_43_code
def yX9_runs : MethodName := ⟨RX9, "runs", "()I"⟩
abbrev cX9_layStanding : ByteArray := prog_11_method_44_code
def yX9_layStanding : MethodName := ⟨RX9, "layStanding", "()V"⟩
abbrev cX9_cell : ByteArray := prog_11_method_45_code
def yX9_cell : MethodName := ⟨RX9, "cell", "(II)I"⟩
abbrev cX9_height : ByteArray := prog_11_method_46_code
def yX9_height : MethodName := ⟨RX9, "height", "(I)I"⟩
abbrev cX9_minutes : ByteArray := prog_11_method_47_code
def yX9_minutes : MethodName := ⟨RX9, "minutes", "()I"⟩
abbrev cX9_gives : ByteArray := prog_11_method_48_code
def yX9_gives : MethodName := ⟨RX9, "gives", "(I)I"⟩
abbrev cX9_fits : ByteArray := prog_11_method_49_code
def yX9_fits : MethodName := ⟨RX9, "fits", "()Z"⟩
abbrev cX9_nextOrder : ByteArray := prog_11_method_50_code
def yX9_nextOrder : MethodName := ⟨RX9, "nextOrder", "()Z"⟩
abbrev cX9_best : ByteArray := prog_11_method_51_code
def yX9_best : MethodName := ⟨RX9, "best", "(I)I"⟩
abbrev cX9_orders : ByteArray := prog_11_method_52_code
def yX9_orders : MethodName := ⟨RX9, "orders", "()I"⟩
abbrev cX9_setBy : ByteArray := prog_11_method_53_code
def yX9_setBy : MethodName := ⟨RX9, "setBy", "(I)I"⟩
abbrev cX9_beforehand : ByteArray := prog_11_method_54_code
def yX9_beforehand : MethodName := ⟨RX9, "beforehand", "(I)I"⟩
abbrev cX9_flame : ByteArray := prog_11_method_55_code
def yX9_flame : MethodName := ⟨RX9, "flame", "(II)V"⟩
abbrev cX9_spots : ByteArray := prog_11_method_56_code
def yX9_spots : MethodName := ⟨RX9, "spots", "(II)I"⟩
abbrev cX9_crackAt : ByteArray := prog_11_method_57_code
def yX9_crackAt : MethodName := ⟨RX9, "crackAt", "(I)I"⟩
abbrev cX9_crack : ByteArray := prog_11_method_58_code
def yX9_crack : MethodName := ⟨RX9, "crack", "(I)I"⟩
abbrev cX9_warm : ByteArray := prog_11_method_59_code
def yX9_warm : MethodName := ⟨RX9, "warm", "()I"⟩
abbrev cX9_bendBy : ByteArray := prog_11_method_60_code
def yX9_bendBy : MethodName := ⟨RX9, "bendBy", "(II)I"⟩
abbrev cX9_wire : ByteArray := prog_11_method_61_code
def yX9_wire : MethodName := ⟨RX9, "wire", "(III)I"⟩
abbrev cX9_isStep : ByteArray := prog_11_method_62_code
def yX9_isStep : MethodName := ⟨RX9, "isStep", "(I)Z"⟩
abbrev cX9_isOf : ByteArray := prog_11_method_63_code
def yX9_isOf : MethodName := ⟨RX9, "isOf", "(II)Z"⟩
abbrev cX9_kind : ByteArray := prog_11_method_64_code
def yX9_kind : MethodName := ⟨RX9, "kind", "(I)I"⟩
abbrev cX9_as : ByteArray := prog_11_method_65_code
def yX9_as : MethodName := ⟨RX9, "as", "(II)I"⟩
abbrev cX9_began : ByteArray := prog_11_method_66_code
def yX9_began : MethodName := ⟨RX9, "began", "(I)V"⟩
abbrev cX9_flameSize : ByteArray := prog_11_method_67_code
def yX9_flameSize : MethodName := ⟨RX9, "flameSize", "(I)I"⟩
abbrev cX9_markOf : ByteArray := prog_11_method_68_code
def yX9_markOf : MethodName := ⟨RX9, "markOf", "(II)I"⟩
abbrev cX9_sizeOf : ByteArray := prog_11_method_69_code
def yX9_sizeOf : MethodName := ⟨RX9, "sizeOf", "(II)I"⟩
abbrev cX9_ask : ByteArray := prog_11_method_70_code
def yX9_ask : MethodName := ⟨RX9, "ask", "(II)I"⟩
abbrev cX9_trace : ByteArray := prog_11_method_71_code
def yX9_trace : MethodName := ⟨RX9, "trace", "(I)I"⟩
abbrev cX9_count : ByteArray := prog_11_method_72_code
def yX9_count : MethodName := ⟨RX9, "count", "(I)I"⟩
abbrev cX9_status : ByteArray := prog_11_method_73_code
def yX9_status : MethodName := ⟨RX9, "status", "()I"⟩
def RJ6 : String := "java/lang/Integer"
def TJ6 : u_T := fun k => match k with
  | _ => ("", "", "", false)
def tyJ6 : Nat → FieldType := fun k => match k with
  | _ => .int
abbrev wsJ60 : List Cond := u_ws RJ6 TJ6 0
theorem nmJ6 : ∀ a, a < 0 → ∀ b, b < 0 → a ≠ b → (TJ6 a).2.1 ≠ (TJ6 b).2.1 := by decide +kernel
theorem tyJ6_ok : ∀ k, k < 0 → parseFieldDescriptor (TJ6 k).2.2.1 = some (tyJ6 k) := by decide +kernel
abbrev cJ6_bitCount_0f7a4 : ByteArray := prog_12_method_49_code
def yJ6_bitCount_0f7a4 : MethodName := ⟨RJ6, "bitCount", "(I)I"⟩
def RJ9 : String := "java/lang/Math"
def TJ9 : u_T := fun k => match k with
  | _ => ("", "", "", false)
def tyJ9 : Nat → FieldType := fun k => match k with
  | _ => .int
abbrev wsJ90 : List Cond := u_ws RJ9 TJ9 0
theorem nmJ9 : ∀ a, a < 0 → ∀ b, b < 0 → a ≠ b → (TJ9 a).2.1 ≠ (TJ9 b).2.1 := by decide +kernel
theorem tyJ9_ok : ∀ k, k < 0 → parseFieldDescriptor (TJ9 k).2.2.1 = some (tyJ9 k) := by decide +kernel
abbrev cJ9_abs_0f7a4 : ByteArray := prog_13_method_59_code
def yJ9_abs_0f7a4 : MethodName := ⟨RJ9, "abs", "(I)I"⟩
abbrev cJ9_max_7cf53 : ByteArray := prog_13_method_65_code
def yJ9_max_7cf53 : MethodName := ⟨RJ9, "max", "(II)I"⟩
abbrev cJ9_min_7cf53 : ByteArray := prog_13_method_69_code
def yJ9_min_7cf53 : MethodName := ⟨RJ9, "min", "(II)I"⟩
def RJ0 : String := "java/lang/String"
def TJ0 : u_T := fun k => match k with
  | _ => ("", "", "", false)
def tyJ0 : Nat → FieldType := fun k => match k with
  | _ => .int
abbrev wsJ00 : List Cond := u_ws RJ0 TJ0 0
theorem nmJ0 : ∀ a, a < 0 → ∀ b, b < 0 → a ≠ b → (TJ0 a).2.1 ≠ (TJ0 b).2.1 := by decide +kernel
theorem tyJ0_ok : ∀ k, k < 0 → parseFieldDescriptor (TJ0 k).2.2.1 = some (tyJ0 k) := by decide +kernel
abbrev cJ0_length_8abf5 : ByteArray := prog_14_method_54_code
def yJ0_length_8abf5 : MethodName := ⟨RJ0, "length", "()I"⟩
abbrev cJ0_charAt_5068e : ByteArray := prog_14_method_56_code
def yJ0_charAt_5068e : MethodName := ⟨RJ0, "charAt", "(I)C"⟩
abbrev cJ0_coder_7d493 : ByteArray := prog_14_method_152_code
def yJ0_coder_7d493 : MethodName := ⟨RJ0, "coder", "()B"⟩
abbrev cJ0_isLatin1_aae02 : ByteArray := prog_14_method_154_code
def yJ0_isLatin1_aae02 : MethodName := ⟨RJ0, "isLatin1", "()Z"⟩
abbrev cJ0_checkIndex_df160 : ByteArray := prog_14_method_155_code
def yJ0_checkIndex_df160 : MethodName := ⟨RJ0, "checkIndex", "(II)V"⟩
def RJ1 : String := "java/lang/StringLatin1"
def TJ1 : u_T := fun k => match k with
  | _ => ("", "", "", false)
def tyJ1 : Nat → FieldType := fun k => match k with
  | _ => .int
abbrev wsJ10 : List Cond := u_ws RJ1 TJ1 0
theorem nmJ1 : ∀ a, a < 0 → ∀ b, b < 0 → a ≠ b → (TJ1 a).2.1 ≠ (TJ1 b).2.1 := by decide +kernel
theorem tyJ1_ok : ∀ k, k < 0 → parseFieldDescriptor (TJ1 k).2.2.1 = some (tyJ1 k) := by decide +kernel
abbrev cJ1_charAt_3b067 : ByteArray := prog_15_method_2_code
def yJ1_charAt_3b067 : MethodName := ⟨RJ1, "charAt", "([BI)C"⟩
def RJ2 : String := "java/lang/StringUTF16"
def TJ2 : u_T := fun k => match k with
  | _ => ("", "", "", false)
def tyJ2 : Nat → FieldType := fun k => match k with
  | _ => .int
abbrev wsJ20 : List Cond := u_ws RJ2 TJ2 0
theorem nmJ2 : ∀ a, a < 0 → ∀ b, b < 0 → a ≠ b → (TJ2 a).2.1 ≠ (TJ2 b).2.1 := by decide +kernel
theorem tyJ2_ok : ∀ k, k < 0 → parseFieldDescriptor (TJ2 k).2.2.1 = some (tyJ2 k) := by decide +kernel
abbrev cJ2_getChar_3b067 : ByteArray := prog_16_method_5_code
def yJ2_getChar_3b067 : MethodName := ⟨RJ2, "getChar", "([BI)C"⟩
abbrev cJ2_length_9d52b : ByteArray := prog_16_method_6_code
def yJ2_length_9d52b : MethodName := ⟨RJ2, "length", "([B)I"⟩
abbrev cJ2_charAt_3b067 : ByteArray := prog_16_method_83_code
def yJ2_charAt_3b067 : MethodName := ⟨RJ2, "charAt", "([BI)C"⟩
abbrev cJ2_checkIndex_2214a : ByteArray := prog_16_method_91_code
def yJ2_checkIndex_2214a : MethodName := ⟨RJ2, "checkIndex", "(I[B)V"⟩
def RJ10 : String := "java/lang/System"
def TJ10 : u_T := fun k => match k with
  | _ => ("", "", "", false)
def tyJ10 : Nat → FieldType := fun k => match k with
  | _ => .int
abbrev wsJ100 : List Cond := u_ws RJ10 TJ10 0
theorem nmJ10 : ∀ a, a < 0 → ∀ b, b < 0 → a ≠ b → (TJ10 a).2.1 ≠ (TJ10 b).2.1 := by decide +kernel
theorem tyJ10_ok : ∀ k, k < 0 → parseFieldDescriptor (TJ10 k).2.2.1 = some (tyJ10 k) := by decide +kernel
def RJ7 : String := "java/util/Arrays"
def TJ7 : u_T := fun k => match k with
  | _ => ("", "", "", false)
def tyJ7 : Nat → FieldType := fun k => match k with
  | _ => .int
abbrev wsJ70 : List Cond := u_ws RJ7 TJ7 0
theorem nmJ7 : ∀ a, a < 0 → ∀ b, b < 0 → a ≠ b → (TJ7 a).2.1 ≠ (TJ7 b).2.1 := by decide +kernel
theorem tyJ7_ok : ∀ k, k < 0 → parseFieldDescriptor (TJ7 k).2.2.1 = some (tyJ7 k) := by decide +kernel
abbrev cJ7_fill_53178 : ByteArray := prog_18_method_103_code
def yJ7_fill_53178 : MethodName := ⟨RJ7, "fill", "([II)V"⟩
def RJ3 : String := "jdk/internal/util/Preconditions"
def TJ3 : u_T := fun k => match k with
  | _ => ("", "", "", false)
def tyJ3 : Nat → FieldType := fun k => match k with
  | _ => .int
abbrev wsJ30 : List Cond := u_ws RJ3 TJ3 0
theorem nmJ3 : ∀ a, a < 0 → ∀ b, b < 0 → a ≠ b → (TJ3 a).2.1 ≠ (TJ3 b).2.1 := by decide +kernel
theorem tyJ3_ok : ∀ k, k < 0 → parseFieldDescriptor (TJ3 k).2.2.1 = some (tyJ3 k) := by decide +kernel
abbrev cJ3_checkIndex_8e157 : ByteArray := prog_19_method_11_code
def yJ3_checkIndex_8e157 : MethodName := ⟨RJ3, "checkIndex", "(IILjava/util/function/BiFunction;)I"⟩
def RL : String := "SeamPullLaw"
abbrev cL_law : ByteArray := code
def yL_law : MethodName := ⟨RL, "law", "([I)Z"⟩
abbrev vwCl : List vw_C := [(RX0, TX0, 2), (RX1, TX1, 3), (RX2, TX2, 10), (RX3, TX3, 10), (RX4, TX4, 2), (RX5, TX5, 7), (RX6, TX6, 3), (RX7, TX7, 5), (RX8, TX8, 16), (RX9, TX9, 43)]
end
section
/-! ===== the words that every method is given ===== -/
theorem bg_in {big ws : List Cond} (ps : List Nat) (hp : ws = ps.filterMap (fun i => big[i]?)) : ∀ w ∈ ws, w ∈ big := by
  intro w hw
  rw [hp] at hw
  obtain ⟨i, -, hi⟩ := List.mem_filterMap.mp hw
  exact List.mem_of_getElem? hi
def BG_0 : List Cond := [.selects "SeamPull" ⟨"SeamPull", "found", "(I)I"⟩ ⟨"SeamPull", "found", "(I)I"⟩, .selects "SeamPull" ⟨"SeamPull", "fine", "(I)I"⟩ ⟨"SeamPull", "fine", "(I)I"⟩, .selects "SeamPull$Reader" ⟨"SeamPull$Reader", "takePanel", "(LSeamPull$Plan;)I"⟩ ⟨"SeamPull$Reader", "takePanel", "(LSeamPull$Plan;)I"⟩, .selects "SeamPull$Tape" ⟨"SeamPull$Tape", "spells", "(Ljava/lang/String;)Z"⟩ ⟨"SeamPull$Tape", "spells", "(Ljava/lang/String;)Z"⟩, .selects "SeamPull$Reader" ⟨"SeamPull$Reader", "takeNumber", "(II)I"⟩ ⟨"SeamPull$Reader", "takeNumber", "(II)I"⟩, .selects "SeamPull$Reader" ⟨"SeamPull$Reader", "takeSign", "()I"⟩ ⟨"SeamPull$Reader", "takeSign", "()I"⟩, .selects "SeamPull$Reader" ⟨"SeamPull$Reader", "takeSeam", "(LSeamPull$Plan;)I"⟩ ⟨"SeamPull$Reader", "takeSeam", "(LSeamPull$Plan;)I"⟩, .selects "SeamPull$Reader" ⟨"SeamPull$Reader", "takeAct", "(LSeamPull$Plan;I)I"⟩ ⟨"SeamPull$Reader", "takeAct", "(LSeamPull$Plan;I)I"⟩, .selects "SeamPull$Reader" ⟨"SeamPull$Reader", "takeBefore", "(LSeamPull$Plan;)I"⟩ ⟨"SeamPull$Reader", "takeBefore", "(LSeamPull$Plan;)I"⟩, .selects "SeamPull" ⟨"SeamPull", "beginPlan", "()V"⟩ ⟨"SeamPull", "beginPlan", "()V"⟩, .selects "SeamPull" ⟨"SeamPull", "standByOrder", "()I"⟩ ⟨"SeamPull", "standByOrder", "()I"⟩, .selects "SeamPull$Panel" ⟨"SeamPull$Panel", "freeOne", "(I)V"⟩ ⟨"SeamPull$Panel", "freeOne", "(I)V"⟩, .selects "SeamPull$Panel" ⟨"SeamPull$Panel", "has", "(I)Z"⟩ ⟨"SeamPull$Panel", "has", "(I)Z"⟩, .selects "SeamPull$Panel" ⟨"SeamPull$Panel", "isClamped", "(I)Z"⟩ ⟨"SeamPull$Panel", "isClamped", "(I)Z"⟩, .selects "SeamPull$Panel" ⟨"SeamPull$Panel", "doStep", "(III)V"⟩ ⟨"SeamPull$Panel", "doStep", "(III)V"⟩, .selects "SeamPull$Panel" ⟨"SeamPull$Panel", "cool", "(I)V"⟩ ⟨"SeamPull$Panel", "cool", "(I)V"⟩, .selects "SeamPull$Panel" ⟨"SeamPull$Panel", "shrinkageOf", "(III)I"⟩ ⟨"SeamPull$Panel", "shrinkageOf", "(III)I"⟩, .selects "SeamPull$Panel" ⟨"SeamPull$Panel", "holds", "(I)Z"⟩ ⟨"SeamPull$Panel", "holds", "(I)Z"⟩, .selects "SeamPull$Panel" ⟨"SeamPull$Panel", "effectOf", "(II)I"⟩ ⟨"SeamPull$Panel", "effectOf", "(II)I"⟩, .selects "SeamPull$Search" ⟨"SeamPull$Search", "tryFrom", "(LSeamPull$Plan;II)V"⟩ ⟨"SeamPull$Search", "tryFrom", "(LSeamPull$Plan;II)V"⟩, .selects "SeamPull$Search" ⟨"SeamPull$Search", "weigh", "(LSeamPull$Panel;I)V"⟩ ⟨"SeamPull$Search", "weigh", "(LSeamPull$Panel;I)V"⟩, .selects "SeamPull$Beforehand" ⟨"SeamPull$Beforehand", "keepWhereFlat", "(LSeamPull$Panel;I)V"⟩ ⟨"SeamPull$Beforehand", "keepWhereFlat", "(LSeamPull$Panel;I)V"⟩, .selects "SeamPull" ⟨"SeamPull", "drawDown", "(III)Z"⟩ ⟨"SeamPull", "drawDown", "(III)Z"⟩, .selects "SeamPull" ⟨"SeamPull", "spotAt", "(II)V"⟩ ⟨"SeamPull", "spotAt", "(II)V"⟩, .selects "SeamPull" ⟨"SeamPull", "steelOf", "(II)I"⟩ ⟨"SeamPull", "steelOf", "(II)I"⟩, .selects "SeamPull" ⟨"SeamPull", "isSteel", "(III)Z"⟩ ⟨"SeamPull", "isSteel", "(III)Z"⟩, .selects "SeamPull" ⟨"SeamPull", "wireBend", "(III)I"⟩ ⟨"SeamPull", "wireBend", "(III)I"⟩, .selects "SeamPull$Asks" ⟨"SeamPull$Asks", "asked", "(LSeamPull$Plan;III)I"⟩ ⟨"SeamPull$Asks", "asked", "(LSeamPull$Plan;III)I"⟩, .selects "SeamPull$Asks" ⟨"SeamPull$Asks", "given", "(LSeamPull$Plan;III)I"⟩ ⟨"SeamPull$Asks", "given", "(LSeamPull$Plan;III)I"⟩, .selects "SeamPull$Asks" ⟨"SeamPull$Asks", "leave", "(I)V"⟩ ⟨"SeamPull$Asks", "leave", "(I)V"⟩, .selects "SeamPullModel" ⟨"SeamPullModel", "finding", "(I)I"⟩ ⟨"SeamPullModel", "finding", "(I)I"⟩, .selects "SeamPullModel" ⟨"SeamPullModel", "next", "()V"⟩ ⟨"SeamPullModel", "next", "()V"⟩, .selects "SeamPullModel" ⟨"SeamPullModel", "byteAt", "(I)I"⟩ ⟨"SeamPullModel", "byteAt", "(I)I"⟩, .selects "SeamPullModel" ⟨"SeamPullModel", "word", "()J"⟩ ⟨"SeamPullModel", "word", "()J"⟩, .selects "SeamPullModel" ⟨"SeamPullModel", "must", "(Z)V"⟩ ⟨"SeamPullModel", "must", "(Z)V"⟩, .selects "SeamPullModel" ⟨"SeamPullModel", "bad", "(I)V"⟩ ⟨"SeamPullModel", "bad", "(I)V"⟩, .selects "SeamPullModel" ⟨"SeamPullModel", "numberIn", "(III)I"⟩ ⟨"SeamPullModel", "numberIn", "(III)I"⟩, .selects "SeamPullModel" ⟨"SeamPullModel", "mustEnd", "()V"⟩ ⟨"SeamPullModel", "mustEnd", "()V"⟩, .selects "SeamPullModel" ⟨"SeamPullModel", "readSeam", "()V"⟩ ⟨"SeamPullModel", "readSeam", "()V"⟩, .selects "SeamPullModel" ⟨"SeamPullModel", "kindOfWord", "()I"⟩ ⟨"SeamPullModel", "kindOfWord", "()I"⟩, .selects "SeamPullModel" ⟨"SeamPullModel", "readAct", "(I)V"⟩ ⟨"SeamPullModel", "readAct", "(I)V"⟩, .selects "SeamPullModel" ⟨"SeamPullModel", "readBefore", "()V"⟩ ⟨"SeamPullModel", "readBefore", "()V"⟩, .selects "SeamPullModel" ⟨"SeamPullModel", "isAct", "(I)Z"⟩ ⟨"SeamPullModel", "isAct", "(I)Z"⟩, .selects "SeamPullModel" ⟨"SeamPullModel", "isCell", "(I)Z"⟩ ⟨"SeamPullModel", "isCell", "(I)Z"⟩, .selects "SeamPullModel" ⟨"SeamPullModel", "layOpened", "()V"⟩ ⟨"SeamPullModel", "layOpened", "()V"⟩, .selects "SeamPullModel" ⟨"SeamPullModel", "go", "(I)V"⟩ ⟨"SeamPullModel", "go", "(I)V"⟩, .selects "SeamPullModel" ⟨"SeamPullModel", "doAct", "(I)V"⟩ ⟨"SeamPullModel", "doAct", "(I)V"⟩, .selects "SeamPullModel" ⟨"SeamPullModel", "minute", "()V"⟩ ⟨"SeamPullModel", "minute", "()V"⟩, .selects "SeamPullModel" ⟨"SeamPullModel", "free", "(I)V"⟩ ⟨"SeamPullModel", "free", "(I)V"⟩, .selects "SeamPullModel" ⟨"SeamPullModel", "step", "(III)V"⟩ ⟨"SeamPullModel", "step", "(III)V"⟩, .selects "SeamPullModel" ⟨"SeamPullModel", "shrinks", "(III)I"⟩ ⟨"SeamPullModel", "shrinks", "(III)I"⟩, .selects "SeamPullModel" ⟨"SeamPullModel", "holds", "(I)Z"⟩ ⟨"SeamPullModel", "holds", "(I)Z"⟩, .selects "SeamPullModel" ⟨"SeamPullModel", "stand", "()V"⟩ ⟨"SeamPullModel", "stand", "()V"⟩, .selects "SeamPullModel" ⟨"SeamPullModel", "offBy", "()I"⟩ ⟨"SeamPullModel", "offBy", "()I"⟩, .selects "SeamPullModel" ⟨"SeamPullModel", "heightBy", "([II)I"⟩ ⟨"SeamPullModel", "heightBy", "([II)I"⟩, .selects "SeamPullModel" ⟨"SeamPullModel", "layNumbers", "()V"⟩ ⟨"SeamPullModel", "layNumbers", "()V"⟩, .selects "SeamPullModel" ⟨"SeamPullModel", "layStanding", "()V"⟩ ⟨"SeamPullModel", "layStanding", "()V"⟩, .selects "SeamPullModel" ⟨"SeamPullModel", "fits", "()Z"⟩ ⟨"SeamPullModel", "fits", "()Z"⟩, .selects "SeamPullModel" ⟨"SeamPullModel", "nextOrder", "()Z"⟩ ⟨"SeamPullModel", "nextOrder", "()Z"⟩, .selects "SeamPullModel" ⟨"SeamPullModel", "setBy", "(I)I"⟩ ⟨"SeamPullModel", "setBy", "(I)I"⟩, .selects "SeamPullModel" ⟨"SeamPullModel", "flame", "(II)V"⟩ ⟨"SeamPullModel", "flame", "(II)V"⟩, .selects "SeamPullModel" ⟨"SeamPullModel", "crackAt", "(I)I"⟩ ⟨"SeamPullModel", "crackAt", "(I)I"⟩, .selects "SeamPullModel" ⟨"SeamPullModel", "bendBy", "(II)I"⟩ ⟨"SeamPullModel", "bendBy", "(II)I"⟩, .selects "SeamPullModel" ⟨"SeamPullModel", "isStep", "(I)Z"⟩ ⟨"SeamPullModel", "isStep", "(I)Z"⟩]
set_option maxRecDepth 100000 in
theorem bgt_0 : ∀ w ∈ BG_0, w ∈ lw_tbl := bg_in [0, 1, 2, 3, 4, 5, 6, 7, 8, 9, 10, 11, 12, 13, 14, 15, 16, 17, 18, 19, 20, 21, 22, 23, 24, 25, 26, 27, 28, 29, 30, 31, 32, 33, 34, 35, 36, 37, 38, 39, 40, 41, 42, 43, 44, 45, 46, 47, 48, 49, 50, 51, 52, 53, 54, 55, 56, 57, 58, 59, 60, 61, 62, 63] (by decide +kernel)
theorem bgg_0 : BG_0.all goodWord = true := by decide +kernel
def BG_1 : List Cond := [.selects "SeamPullModel" ⟨"SeamPullModel", "sizeOf", "(II)I"⟩ ⟨"SeamPullModel", "sizeOf", "(II)I"⟩, .selects "SeamPullModel" ⟨"SeamPullModel", "flameSize", "(I)I"⟩ ⟨"SeamPullModel", "flameSize", "(I)I"⟩, .selects "SeamPullModel" ⟨"SeamPullModel", "began", "(I)V"⟩ ⟨"SeamPullModel", "began", "(I)V"⟩, .selects "SeamPullModel" ⟨"SeamPullModel", "markOf", "(II)I"⟩ ⟨"SeamPullModel", "markOf", "(II)I"⟩, .initialized "SeamPullLaw", .initialized "SeamPull", .initialized "SeamPull$Shelf", .initialized "java/util/Arrays", .initialized "SeamPull$Tape", .initialized "SeamPull$Reader", .initialized "SeamPull$Panel", .initialized "SeamPull$Search", .initialized "SeamPull$Beforehand", .initialized "SeamPull$Asks", .initialized "SeamPull$Plan", .initialized "SeamPullModel", .initialized "java/lang/System", .initialized "java/lang/String", .initialized "java/lang/StringLatin1", .initialized "jdk/internal/util/Preconditions", .initialized "java/lang/StringUTF16", .initialized "java/lang/Math", .initialized "java/lang/Integer", .classLink "SeamPullLaw" 7 "SeamPull", .instantiable "SeamPull" 16, .methodLink "SeamPullLaw" 9 ⟨"SeamPull", "<init>", "()V"⟩, .instanceMethod ⟨"SeamPull", "<init>", "()V"⟩, .code ⟨"SeamPull", "<init>", "()V"⟩ prog_1_method_1_code 1 (none : Option Jvm.ClassFile.FieldType), .methodLink "SeamPull" 1 ⟨"java/lang/Object", "<init>", "()V"⟩, .instanceMethod ⟨"java/lang/Object", "<init>", "()V"⟩, .code ⟨"java/lang/Object", "<init>", "()V"⟩ object_method_1_code 1 (none : Option Jvm.ClassFile.FieldType), .classLink "SeamPull" 7 "SeamPull$Shelf", .instantiable "SeamPull$Shelf" 3, .methodLink "SeamPull" 9 ⟨"SeamPull$Shelf", "<init>", "()V"⟩, .instanceMethod ⟨"SeamPull$Shelf", "<init>", "()V"⟩, .code ⟨"SeamPull$Shelf", "<init>", "()V"⟩ prog_8_method_1_code 1 (none : Option Jvm.ClassFile.FieldType), .methodLink "SeamPull$Shelf" 3 ⟨"java/lang/Object", "<init>", "()V"⟩, .classLink "SeamPull$Shelf" 18 "[[I", .methodLink "SeamPull$Shelf" 23 ⟨"java/util/Arrays", "fill", "([II)V"⟩, .static ⟨"java/util/Arrays", "fill", "([II)V"⟩, .code ⟨"java/util/Arrays", "fill", "([II)V"⟩ prog_18_method_103_code 4 (none : Option Jvm.ClassFile.FieldType), .fieldLink "SeamPull$Shelf" 9 "SeamPull$Shelf" "lanes" "[I", .fieldLink "SeamPull$Shelf" 15 "SeamPull$Shelf" "sizes" "[I", .fieldLink "SeamPull$Shelf" 20 "SeamPull$Shelf" "items" "[[I", .laysFinal "SeamPull$Shelf" "SeamPull$Shelf" "lanes" "[I", .laysFinal "SeamPull$Shelf" "SeamPull$Shelf" "sizes" "[I", .laysFinal "SeamPull$Shelf" "SeamPull$Shelf" "items" "[[I", .arrayClass .int, .classLink "SeamPull" 16 "SeamPull$Tape", .instantiable "SeamPull$Tape" 5, .instanceMethod ⟨"SeamPull$Tape", "<init>", "()V"⟩, .code ⟨"SeamPull$Tape", "<init>", "()V"⟩ prog_9_method_1_code 1 (none : Option Jvm.ClassFile.FieldType), .methodLink "SeamPull$Tape" 3 ⟨"java/lang/Object", "<init>", "()V"⟩, .fieldLink "SeamPull$Tape" 9 "SeamPull$Tape" "bytes" "[B", .fieldLink "SeamPull$Tape" 15 "SeamPull$Tape" "size" "I", .fieldLink "SeamPull$Tape" 19 "SeamPull$Tape" "start" "I", .fieldLink "SeamPull$Tape" 22 "SeamPull$Tape" "end" "I", .fieldLink "SeamPull$Tape" 25 "SeamPull$Tape" "sort" "I", .laysFinal "SeamPull$Tape" "SeamPull$Tape" "bytes" "[B", .lays "SeamPull$Tape" "SeamPull$Tape" "size" "I", .lays "SeamPull$Tape" "SeamPull$Tape" "start" "I", .lays "SeamPull$Tape" "SeamPull$Tape" "end" "I", .lays "SeamPull$Tape" "SeamPull$Tape" "sort" "I", .arrayClass .byte]
set_option maxRecDepth 100000 in
theorem bgt_1 : ∀ w ∈ BG_1, w ∈ lw_tbl := bg_in [64, 65, 66, 67, 68, 69, 70, 71, 72, 73, 74, 75, 76, 77, 78, 79, 80, 81, 82, 83, 84, 85, 86, 87, 88, 89, 90, 91, 92, 93, 94, 95, 96, 97, 98, 99, 100, 101, 103, 104, 105, 106, 107, 108, 109, 111, 113, 116, 117, 118, 120, 121, 122, 123, 124, 126, 127, 128, 129, 131, 133, 135, 137, 140] (by decide +kernel)
theorem bgg_1 : BG_1.all goodWord = true := by decide +kernel
def BG_2 : List Cond := [.classLink "SeamPull" 23 "SeamPull$Reader", .instantiable "SeamPull$Reader" 2, .methodLink "SeamPull" 25 ⟨"SeamPull$Reader", "<init>", "(LSeamPull$Tape;)V"⟩, .instanceMethod ⟨"SeamPull$Reader", "<init>", "(LSeamPull$Tape;)V"⟩, .code ⟨"SeamPull$Reader", "<init>", "(LSeamPull$Tape;)V"⟩ prog_6_method_1_code 2 (none : Option Jvm.ClassFile.FieldType), .methodLink "SeamPull$Reader" 3 ⟨"java/lang/Object", "<init>", "()V"⟩, .fieldLink "SeamPull$Reader" 15 "SeamPull$Reader" "tape" "LSeamPull$Tape;", .fieldLink "SeamPull$Reader" 9 "SeamPull$Reader" "taken" "I", .laysFinal "SeamPull$Reader" "SeamPull$Reader" "tape" "LSeamPull$Tape;", .lays "SeamPull$Reader" "SeamPull$Reader" "taken" "I", .classLink "SeamPull" 42 "SeamPull$Panel", .instantiable "SeamPull$Panel" 10, .instanceMethod ⟨"SeamPull$Panel", "<init>", "()V"⟩, .code ⟨"SeamPull$Panel", "<init>", "()V"⟩ prog_4_method_1_code 1 (none : Option Jvm.ClassFile.FieldType), .methodLink "SeamPull$Panel" 3 ⟨"java/lang/Object", "<init>", "()V"⟩, .fieldLink "SeamPull$Panel" 9 "SeamPull$Panel" "heat" "[I", .fieldLink "SeamPull$Panel" 15 "SeamPull$Panel" "heatTime" "[I", .fieldLink "SeamPull$Panel" 18 "SeamPull$Panel" "hold" "[I", .fieldLink "SeamPull$Panel" 21 "SeamPull$Panel" "bend" "[I", .fieldLink "SeamPull$Panel" 24 "SeamPull$Panel" "spring" "[I", .fieldLink "SeamPull$Panel" 27 "SeamPull$Panel" "shrunk" "[I", .fieldLink "SeamPull$Panel" 30 "SeamPull$Panel" "clampBits" "I", .fieldLink "SeamPull$Panel" 34 "SeamPull$Panel" "cells" "I", .fieldLink "SeamPull$Panel" 37 "SeamPull$Panel" "minutes" "I", .fieldLink "SeamPull$Panel" 40 "SeamPull$Panel" "allShrunk" "I", .laysFinal "SeamPull$Panel" "SeamPull$Panel" "heat" "[I", .laysFinal "SeamPull$Panel" "SeamPull$Panel" "heatTime" "[I", .laysFinal "SeamPull$Panel" "SeamPull$Panel" "hold" "[I", .laysFinal "SeamPull$Panel" "SeamPull$Panel" "bend" "[I", .laysFinal "SeamPull$Panel" "SeamPull$Panel" "spring" "[I", .laysFinal "SeamPull$Panel" "SeamPull$Panel" "shrunk" "[I", .lays "SeamPull$Panel" "SeamPull$Panel" "clampBits" "I", .lays "SeamPull$Panel" "SeamPull$Panel" "cells" "I", .lays "SeamPull$Panel" "SeamPull$Panel" "minutes" "I", .lays "SeamPull$Panel" "SeamPull$Panel" "allShrunk" "I", .classLink "SeamPull" 52 "SeamPull$Search", .instantiable "SeamPull$Search" 7, .methodLink "SeamPull" 54 ⟨"SeamPull$Search", "<init>", "()V"⟩, .instanceMethod ⟨"SeamPull$Search", "<init>", "()V"⟩, .code ⟨"SeamPull$Search", "<init>", "()V"⟩ prog_7_method_1_code 2 (none : Option Jvm.ClassFile.FieldType), .methodLink "SeamPull$Search" 3 ⟨"java/lang/Object", "<init>", "()V"⟩, .classLink "SeamPull$Search" 9 "SeamPull$Panel", .fieldLink "SeamPull$Search" 11 "SeamPull$Search" "panels" "[LSeamPull$Panel;", .fieldLink "SeamPull$Search" 17 "SeamPull$Search" "tried" "[I", .fieldLink "SeamPull$Search" 21 "SeamPull$Search" "nearest" "[I", .fieldLink "SeamPull$Search" 24 "SeamPull$Search" "ways" "[I", .fieldLink "SeamPull$Search" 27 "SeamPull$Search" "known" "Z", .fieldLink "SeamPull$Search" 31 "SeamPull$Search" "fits" "Z", .fieldLink "SeamPull$Search" 34 "SeamPull$Search" "leastOff" "I", .laysFinal "SeamPull$Search" "SeamPull$Search" "panels" "[LSeamPull$Panel;", .laysFinal "SeamPull$Search" "SeamPull$Search" "tried" "[I", .laysFinal "SeamPull$Search" "SeamPull$Search" "nearest" "[I", .laysFinal "SeamPull$Search" "SeamPull$Search" "ways" "[I", .lays "SeamPull$Search" "SeamPull$Search" "known" "Z", .lays "SeamPull$Search" "SeamPull$Search" "fits" "Z", .lays "SeamPull$Search" "SeamPull$Search" "leastOff" "I", .classLink "SeamPull" 59 "SeamPull$Beforehand", .instantiable "SeamPull$Beforehand" 3, .instanceMethod ⟨"SeamPull$Beforehand", "<init>", "()V"⟩, .code ⟨"SeamPull$Beforehand", "<init>", "()V"⟩ prog_3_method_1_code 1 (none : Option Jvm.ClassFile.FieldType), .methodLink "SeamPull$Beforehand" 3 ⟨"java/lang/Object", "<init>", "()V"⟩, .fieldLink "SeamPull$Beforehand" 9 "SeamPull$Beforehand" "bends" "[I", .fieldLink "SeamPull$Beforehand" 15 "SeamPull$Beforehand" "alike" "[I", .fieldLink "SeamPull$Beforehand" 18 "SeamPull$Beforehand" "known" "Z"]
set_option maxRecDepth 100000 in
theorem bgt_2 : ∀ w ∈ BG_2, w ∈ lw_tbl := bg_in [141, 142, 143, 144, 145, 146, 147, 148, 149, 151, 154, 155, 157, 158, 159, 160, 161, 162, 164, 167, 168, 169, 170, 172, 174, 175, 177, 179, 181, 183, 185, 187, 189, 191, 193, 196, 197, 198, 199, 200, 201, 202, 205, 206, 207, 209, 210, 211, 213, 215, 217, 219, 221, 223, 225, 227, 230, 231, 233, 234, 235, 236, 238, 239] (by decide +kernel)
theorem bgg_2 : BG_2.all goodWord = true := by decide +kernel
def BG_3 : List Cond := [.laysFinal "SeamPull$Beforehand" "SeamPull$Beforehand" "bends" "[I", .laysFinal "SeamPull$Beforehand" "SeamPull$Beforehand" "alike" "[I", .lays "SeamPull$Beforehand" "SeamPull$Beforehand" "known" "Z", .classLink "SeamPull" 66 "SeamPull$Asks", .instantiable "SeamPull$Asks" 2, .instanceMethod ⟨"SeamPull$Asks", "<init>", "()V"⟩, .code ⟨"SeamPull$Asks", "<init>", "()V"⟩ prog_2_method_1_code 1 (none : Option Jvm.ClassFile.FieldType), .methodLink "SeamPull$Asks" 3 ⟨"java/lang/Object", "<init>", "()V"⟩, .fieldLink "SeamPull$Asks" 11 "SeamPull$Asks" "begun" "[I", .fieldLink "SeamPull$Asks" 15 "SeamPull$Asks" "many" "I", .laysFinal "SeamPull$Asks" "SeamPull$Asks" "begun" "[I", .lays "SeamPull$Asks" "SeamPull$Asks" "many" "I", .classLink "SeamPull" 73 "SeamPull$Plan", .instantiable "SeamPull$Plan" 10, .instanceMethod ⟨"SeamPull$Plan", "<init>", "()V"⟩, .code ⟨"SeamPull$Plan", "<init>", "()V"⟩ prog_5_method_1_code 1 (none : Option Jvm.ClassFile.FieldType), .methodLink "SeamPull$Plan" 3 ⟨"java/lang/Object", "<init>", "()V"⟩, .fieldLink "SeamPull$Plan" 9 "SeamPull$Plan" "cells" "I", .fieldLink "SeamPull$Plan" 15 "SeamPull$Plan" "seams" "I", .fieldLink "SeamPull$Plan" 18 "SeamPull$Plan" "acts" "I", .fieldLink "SeamPull$Plan" 21 "SeamPull$Plan" "befores" "I", .fieldLink "SeamPull$Plan" 24 "SeamPull$Plan" "actKind" "[I", .fieldLink "SeamPull$Plan" 28 "SeamPull$Plan" "actPlace" "[I", .fieldLink "SeamPull$Plan" 31 "SeamPull$Plan" "actStrength" "[I", .fieldLink "SeamPull$Plan" 34 "SeamPull$Plan" "actSeam" "[I", .fieldLink "SeamPull$Plan" 37 "SeamPull$Plan" "seamEnd" "[I", .fieldLink "SeamPull$Plan" 40 "SeamPull$Plan" "needs" "[I", .lays "SeamPull$Plan" "SeamPull$Plan" "cells" "I", .lays "SeamPull$Plan" "SeamPull$Plan" "seams" "I", .lays "SeamPull$Plan" "SeamPull$Plan" "acts" "I", .lays "SeamPull$Plan" "SeamPull$Plan" "befores" "I", .laysFinal "SeamPull$Plan" "SeamPull$Plan" "actKind" "[I", .laysFinal "SeamPull$Plan" "SeamPull$Plan" "actPlace" "[I", .laysFinal "SeamPull$Plan" "SeamPull$Plan" "actStrength" "[I", .laysFinal "SeamPull$Plan" "SeamPull$Plan" "actSeam" "[I", .laysFinal "SeamPull$Plan" "SeamPull$Plan" "seamEnd" "[I", .laysFinal "SeamPull$Plan" "SeamPull$Plan" "needs" "[I", .fieldLink "SeamPull" 10 "SeamPull" "shelf" "LSeamPull$Shelf;", .fieldLink "SeamPull" 19 "SeamPull" "tape" "LSeamPull$Tape;", .fieldLink "SeamPull" 28 "SeamPull" "reader" "LSeamPull$Reader;", .fieldLink "SeamPull" 32 "SeamPull" "setTo" "[I", .fieldLink "SeamPull" 36 "SeamPull" "order" "[I", .fieldLink "SeamPull" 39 "SeamPull" "row" "[I", .fieldLink "SeamPull" 45 "SeamPull" "latest" "LSeamPull$Panel;", .fieldLink "SeamPull" 49 "SeamPull" "trial" "LSeamPull$Panel;", .fieldLink "SeamPull" 55 "SeamPull" "search" "LSeamPull$Search;", .fieldLink "SeamPull" 62 "SeamPull" "ahead" "LSeamPull$Beforehand;", .fieldLink "SeamPull" 69 "SeamPull" "asks" "LSeamPull$Asks;", .fieldLink "SeamPull" 76 "SeamPull" "plan" "LSeamPull$Plan;", .fieldLink "SeamPull" 80 "SeamPull" "draft" "LSeamPull$Plan;", .fieldLink "SeamPull" 83 "SeamPull" "ran" "Z", .fieldLink "SeamPull" 87 "SeamPull" "latestFault" "I", .fieldLink "SeamPull" 91 "SeamPull" "latestFinding" "I", .laysFinal "SeamPull" "SeamPull" "shelf" "LSeamPull$Shelf;", .laysFinal "SeamPull" "SeamPull" "tape" "LSeamPull$Tape;", .laysFinal "SeamPull" "SeamPull" "reader" "LSeamPull$Reader;", .laysFinal "SeamPull" "SeamPull" "setTo" "[I", .laysFinal "SeamPull" "SeamPull" "order" "[I", .laysFinal "SeamPull" "SeamPull" "row" "[I", .laysFinal "SeamPull" "SeamPull" "latest" "LSeamPull$Panel;", .laysFinal "SeamPull" "SeamPull" "trial" "LSeamPull$Panel;", .laysFinal "SeamPull" "SeamPull" "search" "LSeamPull$Search;", .laysFinal "SeamPull" "SeamPull" "ahead" "LSeamPull$Beforehand;", .laysFinal "SeamPull" "SeamPull" "asks" "LSeamPull$Asks;"]
set_option maxRecDepth 100000 in
theorem bgt_3 : ∀ w ∈ BG_3, w ∈ lw_tbl := bg_in [240, 242, 244, 247, 248, 250, 251, 252, 253, 254, 255, 257, 260, 261, 263, 264, 265, 266, 271, 276, 279, 282, 285, 288, 292, 294, 295, 296, 298, 300, 302, 304, 306, 308, 310, 312, 314, 317, 318, 319, 320, 321, 322, 323, 324, 325, 326, 327, 328, 329, 330, 331, 332, 333, 335, 337, 339, 341, 343, 345, 347, 349, 351, 353] (by decide +kernel)
theorem bgg_3 : BG_3.all goodWord = true := by decide +kernel
def BG_4 : List Cond := [.lays "SeamPull" "SeamPull" "plan" "LSeamPull$Plan;", .lays "SeamPull" "SeamPull" "draft" "LSeamPull$Plan;", .lays "SeamPull" "SeamPull" "ran" "Z", .lays "SeamPull" "SeamPull" "latestFault" "I", .lays "SeamPull" "SeamPull" "latestFinding" "I", .methodLink "SeamPullLaw" 13 ⟨"SeamPull", "sheet", "(III)I"⟩, .instanceMethod ⟨"SeamPull", "sheet", "(III)I"⟩, .selects "SeamPull" ⟨"SeamPull", "sheet", "(III)I"⟩ ⟨"SeamPull", "sheet", "(III)I"⟩, .code ⟨"SeamPull", "sheet", "(III)I"⟩ prog_1_method_2_code 4 (some .int), .methodLink "SeamPull" 94 ⟨"SeamPull$Shelf", "hasNumber", "(I)Z"⟩, .instanceMethod ⟨"SeamPull$Shelf", "hasNumber", "(I)Z"⟩, .selects "SeamPull$Shelf" ⟨"SeamPull$Shelf", "hasNumber", "(I)Z"⟩ ⟨"SeamPull$Shelf", "hasNumber", "(I)Z"⟩, .code ⟨"SeamPull$Shelf", "hasNumber", "(I)Z"⟩ prog_8_method_2_code 2 (some .boolean), .constant "SeamPull" 98 (-1000001), .methodLink "SeamPull" 99 ⟨"SeamPull", "found", "(I)I"⟩, .instanceMethod ⟨"SeamPull", "found", "(I)I"⟩, .code ⟨"SeamPull", "found", "(I)I"⟩ prog_1_method_37_code 2 (some .int), .constant "SeamPull" 338 (-1000010), .methodLink "SeamPull" 103 ⟨"SeamPull$Shelf", "lay", "(III)V"⟩, .instanceMethod ⟨"SeamPull$Shelf", "lay", "(III)V"⟩, .selects "SeamPull$Shelf" ⟨"SeamPull$Shelf", "lay", "(III)V"⟩ ⟨"SeamPull$Shelf", "lay", "(III)V"⟩, .code ⟨"SeamPull$Shelf", "lay", "(III)V"⟩ prog_8_method_7_code 4 (none : Option Jvm.ClassFile.FieldType), .methodLink "SeamPull" 107 ⟨"SeamPull", "fine", "(I)I"⟩, .instanceMethod ⟨"SeamPull", "fine", "(I)I"⟩, .code ⟨"SeamPull", "fine", "(I)I"⟩ prog_1_method_38_code 2 (some .int), .methodLink "SeamPullLaw" 18 ⟨"SeamPull", "set", "(III)I"⟩, .instanceMethod ⟨"SeamPull", "set", "(III)I"⟩, .selects "SeamPull" ⟨"SeamPull", "set", "(III)I"⟩ ⟨"SeamPull", "set", "(III)I"⟩, .code ⟨"SeamPull", "set", "(III)I"⟩ prog_1_method_3_code 5 (some .int), .methodLink "SeamPull" 110 ⟨"SeamPull$Shelf", "findingAt", "(III)I"⟩, .instanceMethod ⟨"SeamPull$Shelf", "findingAt", "(III)I"⟩, .selects "SeamPull$Shelf" ⟨"SeamPull$Shelf", "findingAt", "(III)I"⟩ ⟨"SeamPull$Shelf", "findingAt", "(III)I"⟩, .code ⟨"SeamPull$Shelf", "findingAt", "(III)I"⟩ prog_8_method_5_code 4 (some .int), .methodLink "SeamPull$Shelf" 29 ⟨"SeamPull$Shelf", "isMissing", "(I)Z"⟩, .instanceMethod ⟨"SeamPull$Shelf", "isMissing", "(I)Z"⟩, .selects "SeamPull$Shelf" ⟨"SeamPull$Shelf", "isMissing", "(I)Z"⟩ ⟨"SeamPull$Shelf", "isMissing", "(I)Z"⟩, .code ⟨"SeamPull$Shelf", "isMissing", "(I)Z"⟩ prog_8_method_3_code 2 (some .boolean), .methodLink "SeamPull" 114 ⟨"SeamPull$Shelf", "put", "(III)I"⟩, .instanceMethod ⟨"SeamPull$Shelf", "put", "(III)I"⟩, .selects "SeamPull$Shelf" ⟨"SeamPull$Shelf", "put", "(III)I"⟩ ⟨"SeamPull$Shelf", "put", "(III)I"⟩, .code ⟨"SeamPull$Shelf", "put", "(III)I"⟩ prog_8_method_9_code 4 (some .int), .methodLink "SeamPull$Shelf" 33 ⟨"SeamPull$Shelf", "narrowed", "(II)I"⟩, .static ⟨"SeamPull$Shelf", "narrowed", "(II)I"⟩, .code ⟨"SeamPull$Shelf", "narrowed", "(II)I"⟩ prog_8_method_10_code 2 (some .int), .methodLink "SeamPullLaw" 22 ⟨"SeamPull", "copy", "(IIIII)I"⟩, .instanceMethod ⟨"SeamPull", "copy", "(IIIII)I"⟩, .selects "SeamPull" ⟨"SeamPull", "copy", "(IIIII)I"⟩ ⟨"SeamPull", "copy", "(IIIII)I"⟩, .code ⟨"SeamPull", "copy", "(IIIII)I"⟩ prog_1_method_4_code 7 (some .int), .methodLink "SeamPull" 117 ⟨"SeamPull$Shelf", "findingBetween", "(II)I"⟩, .instanceMethod ⟨"SeamPull$Shelf", "findingBetween", "(II)I"⟩, .selects "SeamPull$Shelf" ⟨"SeamPull$Shelf", "findingBetween", "(II)I"⟩ ⟨"SeamPull$Shelf", "findingBetween", "(II)I"⟩, .code ⟨"SeamPull$Shelf", "findingBetween", "(II)I"⟩ prog_8_method_6_code 3 (some .int), .methodLink "SeamPull" 121 ⟨"SeamPull$Shelf", "carry", "(IIIII)V"⟩, .instanceMethod ⟨"SeamPull$Shelf", "carry", "(IIIII)V"⟩, .selects "SeamPull$Shelf" ⟨"SeamPull$Shelf", "carry", "(IIIII)V"⟩ ⟨"SeamPull$Shelf", "carry", "(IIIII)V"⟩, .code ⟨"SeamPull$Shelf", "carry", "(IIIII)V"⟩ prog_8_method_11_code 6 (none : Option Jvm.ClassFile.FieldType), .methodLink "SeamPull$Shelf" 37 ⟨"java/lang/System", "arraycopy", "(Ljava/lang/Object;ILjava/lang/Object;II)V"⟩, .static ⟨"java/lang/System", "arraycopy", "(Ljava/lang/Object;ILjava/lang/Object;II)V"⟩, .native ⟨"java/lang/System", "arraycopy", "(Ljava/lang/Object;ILjava/lang/Object;II)V"⟩, .methodLink "SeamPullLaw" 27 ⟨"SeamPull", "drop", "(I)I"⟩, .instanceMethod ⟨"SeamPull", "drop", "(I)I"⟩, .selects "SeamPull" ⟨"SeamPull", "drop", "(I)I"⟩ ⟨"SeamPull", "drop", "(I)I"⟩, .code ⟨"SeamPull", "drop", "(I)I"⟩ prog_1_method_5_code 2 (some .int), .methodLink "SeamPull" 125 ⟨"SeamPull$Shelf", "isMissing", "(I)Z"⟩]
set_option maxRecDepth 100000 in
theorem bgt_4 : ∀ w ∈ BG_4, w ∈ lw_tbl := bg_in [355, 357, 359, 361, 363, 366, 367, 368, 369, 370, 371, 372, 373, 374, 375, 377, 378, 379, 380, 381, 382, 383, 384, 386, 387, 388, 389, 390, 391, 392, 393, 394, 395, 396, 397, 398, 399, 400, 401, 402, 403, 404, 405, 406, 407, 408, 409, 410, 411, 412, 413, 414, 415, 416, 417, 418, 419, 420, 421, 422, 423, 424, 425, 426] (by decide +kernel)
theorem bgg_4 : BG_4.all goodWord = true := by decide +kernel
def BG_5 : List Cond := [.methodLink "SeamPull" 128 ⟨"SeamPull$Shelf", "takeAway", "(I)I"⟩, .instanceMethod ⟨"SeamPull$Shelf", "takeAway", "(I)I"⟩, .selects "SeamPull$Shelf" ⟨"SeamPull$Shelf", "takeAway", "(I)I"⟩ ⟨"SeamPull$Shelf", "takeAway", "(I)I"⟩, .code ⟨"SeamPull$Shelf", "takeAway", "(I)I"⟩ prog_8_method_8_code 3 (some .int), .methodLink "SeamPullLaw" 34 ⟨"SeamPull", "feed", "(JI)I"⟩, .instanceMethod ⟨"SeamPull", "feed", "(JI)I"⟩, .selects "SeamPull" ⟨"SeamPull", "feed", "(JI)I"⟩ ⟨"SeamPull", "feed", "(JI)I"⟩, .code ⟨"SeamPull", "feed", "(JI)I"⟩ prog_1_method_6_code 4 (some .int), .methodLink "SeamPull" 131 ⟨"SeamPull$Tape", "hasRoom", "(I)Z"⟩, .instanceMethod ⟨"SeamPull$Tape", "hasRoom", "(I)Z"⟩, .selects "SeamPull$Tape" ⟨"SeamPull$Tape", "hasRoom", "(I)Z"⟩ ⟨"SeamPull$Tape", "hasRoom", "(I)Z"⟩, .code ⟨"SeamPull$Tape", "hasRoom", "(I)Z"⟩ prog_9_method_2_code 2 (some .boolean), .constant "SeamPull" 134 (-1000003), .methodLink "SeamPull" 135 ⟨"SeamPull$Tape", "append", "(JI)I"⟩, .instanceMethod ⟨"SeamPull$Tape", "append", "(JI)I"⟩, .selects "SeamPull$Tape" ⟨"SeamPull$Tape", "append", "(JI)I"⟩ ⟨"SeamPull$Tape", "append", "(JI)I"⟩, .code ⟨"SeamPull$Tape", "append", "(JI)I"⟩ prog_9_method_3_code 5 (some .int), .methodLink "SeamPullLaw" 39 ⟨"SeamPull", "plan", "()I"⟩, .instanceMethod ⟨"SeamPull", "plan", "()I"⟩, .selects "SeamPull" ⟨"SeamPull", "plan", "()I"⟩ ⟨"SeamPull", "plan", "()I"⟩, .code ⟨"SeamPull", "plan", "()I"⟩ prog_1_method_7_code 4 (some .int), .methodLink "SeamPull" 139 ⟨"SeamPull$Reader", "readInto", "(LSeamPull$Plan;)I"⟩, .instanceMethod ⟨"SeamPull$Reader", "readInto", "(LSeamPull$Plan;)I"⟩, .selects "SeamPull$Reader" ⟨"SeamPull$Reader", "readInto", "(LSeamPull$Plan;)I"⟩ ⟨"SeamPull$Reader", "readInto", "(LSeamPull$Plan;)I"⟩, .code ⟨"SeamPull$Reader", "readInto", "(LSeamPull$Plan;)I"⟩ prog_6_method_2_code 4 (some .int), .methodLink "SeamPull$Reader" 19 ⟨"SeamPull$Plan", "clear", "()V"⟩, .instanceMethod ⟨"SeamPull$Plan", "clear", "()V"⟩, .selects "SeamPull$Plan" ⟨"SeamPull$Plan", "clear", "()V"⟩ ⟨"SeamPull$Plan", "clear", "()V"⟩, .code ⟨"SeamPull$Plan", "clear", "()V"⟩ prog_5_method_2_code 1 (none : Option Jvm.ClassFile.FieldType), .methodLink "SeamPull$Plan" 43 ⟨"java/util/Arrays", "fill", "([II)V"⟩, .methodLink "SeamPull$Reader" 24 ⟨"SeamPull$Tape", "toFirst", "()V"⟩, .instanceMethod ⟨"SeamPull$Tape", "toFirst", "()V"⟩, .selects "SeamPull$Tape" ⟨"SeamPull$Tape", "toFirst", "()V"⟩ ⟨"SeamPull$Tape", "toFirst", "()V"⟩, .code ⟨"SeamPull$Tape", "toFirst", "()V"⟩ prog_9_method_6_code 1 (none : Option Jvm.ClassFile.FieldType), .methodLink "SeamPull$Tape" 28 ⟨"SeamPull$Tape", "toNext", "()V"⟩, .instanceMethod ⟨"SeamPull$Tape", "toNext", "()V"⟩, .selects "SeamPull$Tape" ⟨"SeamPull$Tape", "toNext", "()V"⟩ ⟨"SeamPull$Tape", "toNext", "()V"⟩, .code ⟨"SeamPull$Tape", "toNext", "()V"⟩ prog_9_method_7_code 1 (none : Option Jvm.ClassFile.FieldType), .methodLink "SeamPull$Tape" 31 ⟨"SeamPull$Tape", "sortOf", "(I)I"⟩, .static ⟨"SeamPull$Tape", "sortOf", "(I)I"⟩, .code ⟨"SeamPull$Tape", "sortOf", "(I)I"⟩ prog_9_method_8_code 1 (some .int), .methodLink "SeamPull$Reader" 29 ⟨"SeamPull$Reader", "takePanel", "(LSeamPull$Plan;)I"⟩, .instanceMethod ⟨"SeamPull$Reader", "takePanel", "(LSeamPull$Plan;)I"⟩, .code ⟨"SeamPull$Reader", "takePanel", "(LSeamPull$Plan;)I"⟩ prog_6_method_3_code 3 (some .int), .methodLink "SeamPull$Reader" 33 ⟨"SeamPull$Tape", "atWord", "(I)Z"⟩, .instanceMethod ⟨"SeamPull$Tape", "atWord", "(I)Z"⟩, .selects "SeamPull$Tape" ⟨"SeamPull$Tape", "atWord", "(I)Z"⟩ ⟨"SeamPull$Tape", "atWord", "(I)Z"⟩, .code ⟨"SeamPull$Tape", "atWord", "(I)Z"⟩ prog_9_method_12_code 2 (some .boolean), .methodLink "SeamPull$Tape" 73 ⟨"SeamPull$Tape", "spelling", "(I)Ljava/lang/String;"⟩, .static ⟨"SeamPull$Tape", "spelling", "(I)Ljava/lang/String;"⟩, .code ⟨"SeamPull$Tape", "spelling", "(I)Ljava/lang/String;"⟩ prog_9_method_10_code 1 (Option.some (.object "java/lang/String")), .methodLink "SeamPull$Tape" 77 ⟨"SeamPull$Tape", "spells", "(Ljava/lang/String;)Z"⟩, .instanceMethod ⟨"SeamPull$Tape", "spells", "(Ljava/lang/String;)Z"⟩, .code ⟨"SeamPull$Tape", "spells", "(Ljava/lang/String;)Z"⟩ prog_9_method_9_code 3 (some .boolean), .methodLink "SeamPull$Tape" 35 ⟨"java/lang/String", "length", "()I"⟩, .instanceMethod ⟨"java/lang/String", "length", "()I"⟩, .selects "java/lang/String" ⟨"java/lang/String", "length", "()I"⟩ ⟨"java/lang/String", "length", "()I"⟩, .code ⟨"java/lang/String", "length", "()I"⟩ prog_14_method_54_code 1 (some .int), .methodLink "java/lang/String" 335 ⟨"java/lang/String", "coder", "()B"⟩, .instanceMethod ⟨"java/lang/String", "coder", "()B"⟩, .selects "java/lang/String" ⟨"java/lang/String", "coder", "()B"⟩ ⟨"java/lang/String", "coder", "()B"⟩, .code ⟨"java/lang/String", "coder", "()B"⟩ prog_14_method_152_code 1 (some .byte), .fieldLink "java/lang/String" 38 "java/lang/String" "COMPACT_STRINGS" "Z", .methodLink "SeamPull$Tape" 41 ⟨"java/lang/String", "charAt", "(I)C"⟩]
set_option maxRecDepth 100000 in
theorem bgt_5 : ∀ w ∈ BG_5, w ∈ lw_tbl := bg_in [427, 428, 429, 430, 431, 432, 433, 434, 435, 436, 437, 438, 439, 440, 441, 442, 443, 444, 445, 446, 447, 448, 449, 450, 451, 452, 453, 454, 455, 456, 457, 458, 459, 460, 461, 462, 463, 464, 465, 466, 467, 468, 470, 471, 472, 473, 474, 475, 476, 477, 478, 493, 495, 496, 497, 498, 499, 500, 501, 502, 503, 504, 505, 507] (by decide +kernel)
theorem bgg_5 : BG_5.all goodWord = true := by decide +kernel
def BG_6 : List Cond := [.instanceMethod ⟨"java/lang/String", "charAt", "(I)C"⟩, .selects "java/lang/String" ⟨"java/lang/String", "charAt", "(I)C"⟩ ⟨"java/lang/String", "charAt", "(I)C"⟩, .code ⟨"java/lang/String", "charAt", "(I)C"⟩ prog_14_method_56_code 2 (some .char), .methodLink "java/lang/String" 492 ⟨"java/lang/String", "isLatin1", "()Z"⟩, .instanceMethod ⟨"java/lang/String", "isLatin1", "()Z"⟩, .selects "java/lang/String" ⟨"java/lang/String", "isLatin1", "()Z"⟩ ⟨"java/lang/String", "isLatin1", "()Z"⟩, .code ⟨"java/lang/String", "isLatin1", "()Z"⟩ prog_14_method_154_code 1 (some .boolean), .methodLink "java/lang/String" 495 ⟨"java/lang/StringLatin1", "charAt", "([BI)C"⟩, .static ⟨"java/lang/StringLatin1", "charAt", "([BI)C"⟩, .code ⟨"java/lang/StringLatin1", "charAt", "([BI)C"⟩ prog_15_method_2_code 2 (some .char), .methodLink "java/lang/StringLatin1" 9 ⟨"java/lang/String", "checkIndex", "(II)V"⟩, .static ⟨"java/lang/String", "checkIndex", "(II)V"⟩, .code ⟨"java/lang/String", "checkIndex", "(II)V"⟩ prog_14_method_155_code 2 (none : Option Jvm.ClassFile.FieldType), .fieldLink "java/lang/String" 1053 "jdk/internal/util/Preconditions" "SIOOBE_FORMATTER" "Ljava/util/function/BiFunction;", .methodLink "java/lang/String" 1059 ⟨"jdk/internal/util/Preconditions", "checkIndex", "(IILjava/util/function/BiFunction;)I"⟩, .static ⟨"jdk/internal/util/Preconditions", "checkIndex", "(IILjava/util/function/BiFunction;)I"⟩, .code ⟨"jdk/internal/util/Preconditions", "checkIndex", "(IILjava/util/function/BiFunction;)I"⟩ prog_19_method_11_code 3 (some .int), .methodLink "java/lang/String" 498 ⟨"java/lang/StringUTF16", "charAt", "([BI)C"⟩, .static ⟨"java/lang/StringUTF16", "charAt", "([BI)C"⟩, .code ⟨"java/lang/StringUTF16", "charAt", "([BI)C"⟩ prog_16_method_83_code 2 (some .char), .methodLink "java/lang/StringUTF16" 67 ⟨"java/lang/StringUTF16", "checkIndex", "(I[B)V"⟩, .static ⟨"java/lang/StringUTF16", "checkIndex", "(I[B)V"⟩, .code ⟨"java/lang/StringUTF16", "checkIndex", "(I[B)V"⟩ prog_16_method_91_code 2 (none : Option Jvm.ClassFile.FieldType), .methodLink "java/lang/StringUTF16" 48 ⟨"java/lang/StringUTF16", "length", "([B)I"⟩, .static ⟨"java/lang/StringUTF16", "length", "([B)I"⟩, .code ⟨"java/lang/StringUTF16", "length", "([B)I"⟩ prog_16_method_6_code 1 (some .int), .methodLink "java/lang/StringUTF16" 414 ⟨"java/lang/String", "checkIndex", "(II)V"⟩, .methodLink "java/lang/StringUTF16" 71 ⟨"java/lang/StringUTF16", "getChar", "([BI)C"⟩, .static ⟨"java/lang/StringUTF16", "getChar", "([BI)C"⟩, .code ⟨"java/lang/StringUTF16", "getChar", "([BI)C"⟩ prog_16_method_5_code 2 (some .char), .fieldLink "java/lang/StringUTF16" 44 "java/lang/StringUTF16" "$assertionsDisabled" "Z", .fieldLink "java/lang/StringUTF16" 59 "java/lang/StringUTF16" "HI_BYTE_SHIFT" "I", .fieldLink "java/lang/StringUTF16" 63 "java/lang/StringUTF16" "LO_BYTE_SHIFT" "I", .methodLink "SeamPull$Reader" 47 ⟨"SeamPull$Tape", "toNext", "()V"⟩, .methodLink "SeamPull$Reader" 50 ⟨"SeamPull$Reader", "takeNumber", "(II)I"⟩, .instanceMethod ⟨"SeamPull$Reader", "takeNumber", "(II)I"⟩, .code ⟨"SeamPull$Reader", "takeNumber", "(II)I"⟩ prog_6_method_7_code 3 (some .int), .methodLink "SeamPull$Reader" 84 ⟨"SeamPull$Tape", "atNumber", "()Z"⟩, .instanceMethod ⟨"SeamPull$Tape", "atNumber", "()Z"⟩, .selects "SeamPull$Tape" ⟨"SeamPull$Tape", "atNumber", "()Z"⟩ ⟨"SeamPull$Tape", "atNumber", "()Z"⟩, .code ⟨"SeamPull$Tape", "atNumber", "()Z"⟩ prog_9_method_14_code 1 (some .boolean), .methodLink "SeamPull$Reader" 87 ⟨"SeamPull$Tape", "numberHere", "()I"⟩, .instanceMethod ⟨"SeamPull$Tape", "numberHere", "()I"⟩, .selects "SeamPull$Tape" ⟨"SeamPull$Tape", "numberHere", "()I"⟩ ⟨"SeamPull$Tape", "numberHere", "()I"⟩, .code ⟨"SeamPull$Tape", "numberHere", "()I"⟩ prog_9_method_15_code 3 (some .int), .methodLink "SeamPull$Reader" 57 ⟨"SeamPull$Reader", "takeSign", "()I"⟩, .instanceMethod ⟨"SeamPull$Reader", "takeSign", "()I"⟩, .code ⟨"SeamPull$Reader", "takeSign", "()I"⟩ prog_6_method_8_code 1 (some .int), .methodLink "SeamPull$Reader" 94 ⟨"SeamPull$Tape", "atSign", "()Z"⟩, .instanceMethod ⟨"SeamPull$Tape", "atSign", "()Z"⟩, .selects "SeamPull$Tape" ⟨"SeamPull$Tape", "atSign", "()Z"⟩ ⟨"SeamPull$Tape", "atSign", "()Z"⟩, .code ⟨"SeamPull$Tape", "atSign", "()Z"⟩ prog_9_method_16_code 1 (some .boolean), .methodLink "SeamPull$Reader" 37 ⟨"SeamPull$Reader", "takeSeam", "(LSeamPull$Plan;)I"⟩, .instanceMethod ⟨"SeamPull$Reader", "takeSeam", "(LSeamPull$Plan;)I"⟩, .code ⟨"SeamPull$Reader", "takeSeam", "(LSeamPull$Plan;)I"⟩ prog_6_method_4_code 5 (some .int), .methodLink "SeamPull$Reader" 64 ⟨"SeamPull$Tape", "actHere", "()I"⟩, .instanceMethod ⟨"SeamPull$Tape", "actHere", "()I"⟩, .selects "SeamPull$Tape" ⟨"SeamPull$Tape", "actHere", "()I"⟩ ⟨"SeamPull$Tape", "actHere", "()I"⟩, .code ⟨"SeamPull$Tape", "actHere", "()I"⟩ prog_9_method_13_code 2 (some .int), .methodLink "SeamPull$Tape" 81 ⟨"SeamPull$Tape", "atWord", "(I)Z"⟩, .methodLink "SeamPull$Reader" 67 ⟨"SeamPull$Reader", "takeAct", "(LSeamPull$Plan;I)I"⟩, .instanceMethod ⟨"SeamPull$Reader", "takeAct", "(LSeamPull$Plan;I)I"⟩, .code ⟨"SeamPull$Reader", "takeAct", "(LSeamPull$Plan;I)I"⟩ prog_6_method_5_code 6 (some .int), .methodLink "SeamPull$Reader" 77 ⟨"SeamPull$Plan", "addAct", "(III)V"⟩]
set_option maxRecDepth 100000 in
theorem bgt_6 : ∀ w ∈ BG_6, w ∈ lw_tbl := bg_in [508, 509, 510, 511, 512, 513, 514, 515, 516, 517, 518, 519, 520, 521, 523, 524, 525, 526, 527, 528, 529, 530, 531, 532, 533, 534, 535, 536, 537, 538, 539, 541, 543, 545, 546, 548, 549, 550, 551, 552, 553, 554, 555, 556, 557, 558, 560, 561, 562, 563, 564, 565, 566, 568, 569, 570, 571, 572, 573, 574, 575, 577, 578, 579] (by decide +kernel)
theorem bgg_6 : BG_6.all goodWord = true := by decide +kernel
def BG_7 : List Cond := [.instanceMethod ⟨"SeamPull$Plan", "addAct", "(III)V"⟩, .selects "SeamPull$Plan" ⟨"SeamPull$Plan", "addAct", "(III)V"⟩ ⟨"SeamPull$Plan", "addAct", "(III)V"⟩, .code ⟨"SeamPull$Plan", "addAct", "(III)V"⟩ prog_5_method_9_code 4 (none : Option Jvm.ClassFile.FieldType), .methodLink "SeamPull$Reader" 71 ⟨"SeamPull$Plan", "endSeam", "()V"⟩, .instanceMethod ⟨"SeamPull$Plan", "endSeam", "()V"⟩, .selects "SeamPull$Plan" ⟨"SeamPull$Plan", "endSeam", "()V"⟩ ⟨"SeamPull$Plan", "endSeam", "()V"⟩, .code ⟨"SeamPull$Plan", "endSeam", "()V"⟩ prog_5_method_10_code 1 (none : Option Jvm.ClassFile.FieldType), .methodLink "SeamPull$Reader" 40 ⟨"SeamPull$Reader", "takeBefore", "(LSeamPull$Plan;)I"⟩, .instanceMethod ⟨"SeamPull$Reader", "takeBefore", "(LSeamPull$Plan;)I"⟩, .code ⟨"SeamPull$Reader", "takeBefore", "(LSeamPull$Plan;)I"⟩ prog_6_method_6_code 4 (some .int), .methodLink "SeamPull$Reader" 90 ⟨"SeamPull$Plan", "addBefore", "(II)V"⟩, .instanceMethod ⟨"SeamPull$Plan", "addBefore", "(II)V"⟩, .selects "SeamPull$Plan" ⟨"SeamPull$Plan", "addBefore", "(II)V"⟩ ⟨"SeamPull$Plan", "addBefore", "(II)V"⟩, .code ⟨"SeamPull$Plan", "addBefore", "(II)V"⟩ prog_5_method_11_code 3 (none : Option Jvm.ClassFile.FieldType), .methodLink "SeamPull$Plan" 53 ⟨"SeamPull$Plan", "hasSeam", "(I)Z"⟩, .instanceMethod ⟨"SeamPull$Plan", "hasSeam", "(I)Z"⟩, .selects "SeamPull$Plan" ⟨"SeamPull$Plan", "hasSeam", "(I)Z"⟩ ⟨"SeamPull$Plan", "hasSeam", "(I)Z"⟩, .code ⟨"SeamPull$Plan", "hasSeam", "(I)Z"⟩ prog_5_method_5_code 2 (some .boolean), .methodLink "SeamPull$Reader" 43 ⟨"SeamPull$Tape", "atEnd", "()Z"⟩, .instanceMethod ⟨"SeamPull$Tape", "atEnd", "()Z"⟩, .selects "SeamPull$Tape" ⟨"SeamPull$Tape", "atEnd", "()Z"⟩ ⟨"SeamPull$Tape", "atEnd", "()Z"⟩, .code ⟨"SeamPull$Tape", "atEnd", "()Z"⟩ prog_9_method_11_code 1 (some .boolean), .methodLink "SeamPull" 143 ⟨"SeamPull$Tape", "tokenPlace", "()I"⟩, .instanceMethod ⟨"SeamPull$Tape", "tokenPlace", "()I"⟩, .selects "SeamPull$Tape" ⟨"SeamPull$Tape", "tokenPlace", "()I"⟩ ⟨"SeamPull$Tape", "tokenPlace", "()I"⟩, .code ⟨"SeamPull$Tape", "tokenPlace", "()I"⟩ prog_9_method_5_code 1 (some .int), .methodLink "SeamPull" 147 ⟨"SeamPull$Tape", "empty", "()V"⟩, .instanceMethod ⟨"SeamPull$Tape", "empty", "()V"⟩, .selects "SeamPull$Tape" ⟨"SeamPull$Tape", "empty", "()V"⟩ ⟨"SeamPull$Tape", "empty", "()V"⟩, .code ⟨"SeamPull$Tape", "empty", "()V"⟩ prog_9_method_4_code 1 (none : Option Jvm.ClassFile.FieldType), .constant "SeamPull" 150 (-1000100), .methodLink "SeamPull" 151 ⟨"SeamPull", "beginPlan", "()V"⟩, .instanceMethod ⟨"SeamPull", "beginPlan", "()V"⟩, .code ⟨"SeamPull", "beginPlan", "()V"⟩ prog_1_method_8_code 1 (none : Option Jvm.ClassFile.FieldType), .methodLink "SeamPull" 157 ⟨"java/util/Arrays", "fill", "([II)V"⟩, .fieldLink "SeamPull" 163 "SeamPull" "BY_NUMBERS" "[I", .methodLink "SeamPull" 166 ⟨"java/lang/System", "arraycopy", "(Ljava/lang/Object;ILjava/lang/Object;II)V"⟩, .methodLink "SeamPull" 175 ⟨"SeamPull$Panel", "begin", "(I[I)V"⟩, .instanceMethod ⟨"SeamPull$Panel", "begin", "(I[I)V"⟩, .selects "SeamPull$Panel" ⟨"SeamPull$Panel", "begin", "(I[I)V"⟩ ⟨"SeamPull$Panel", "begin", "(I[I)V"⟩, .code ⟨"SeamPull$Panel", "begin", "(I[I)V"⟩ prog_4_method_2_code 3 (none : Option Jvm.ClassFile.FieldType), .methodLink "SeamPull$Panel" 43 ⟨"java/lang/Math", "min", "(II)I"⟩, .static ⟨"java/lang/Math", "min", "(II)I"⟩, .code ⟨"java/lang/Math", "min", "(II)I"⟩ prog_13_method_69_code 2 (some .int), .methodLink "SeamPull$Panel" 49 ⟨"java/util/Arrays", "fill", "([II)V"⟩, .methodLink "SeamPull$Panel" 55 ⟨"java/lang/System", "arraycopy", "(Ljava/lang/Object;ILjava/lang/Object;II)V"⟩, .methodLink "SeamPull" 179 ⟨"SeamPull$Search", "forget", "()V"⟩, .instanceMethod ⟨"SeamPull$Search", "forget", "()V"⟩, .selects "SeamPull$Search" ⟨"SeamPull$Search", "forget", "()V"⟩ ⟨"SeamPull$Search", "forget", "()V"⟩, .code ⟨"SeamPull$Search", "forget", "()V"⟩ prog_7_method_2_code 1 (none : Option Jvm.ClassFile.FieldType), .methodLink "SeamPull" 182 ⟨"SeamPull$Beforehand", "forget", "()V"⟩, .instanceMethod ⟨"SeamPull$Beforehand", "forget", "()V"⟩, .selects "SeamPull$Beforehand" ⟨"SeamPull$Beforehand", "forget", "()V"⟩ ⟨"SeamPull$Beforehand", "forget", "()V"⟩, .code ⟨"SeamPull$Beforehand", "forget", "()V"⟩ prog_3_method_2_code 1 (none : Option Jvm.ClassFile.FieldType), .methodLink "SeamPullLaw" 44 ⟨"SeamPull", "fault", "()I"⟩, .instanceMethod ⟨"SeamPull", "fault", "()I"⟩, .selects "SeamPull" ⟨"SeamPull", "fault", "()I"⟩ ⟨"SeamPull", "fault", "()I"⟩, .code ⟨"SeamPull", "fault", "()I"⟩ prog_1_method_9_code 1 (some .int), .methodLink "SeamPullLaw" 48 ⟨"SeamPull", "act", "(II)I"⟩, .instanceMethod ⟨"SeamPull", "act", "(II)I"⟩, .selects "SeamPull" ⟨"SeamPull", "act", "(II)I"⟩ ⟨"SeamPull", "act", "(II)I"⟩, .code ⟨"SeamPull", "act", "(II)I"⟩ prog_1_method_10_code 3 (some .int), .methodLink "SeamPull" 183 ⟨"SeamPull$Plan", "hasAct", "(I)Z"⟩, .instanceMethod ⟨"SeamPull$Plan", "hasAct", "(I)Z"⟩]
set_option maxRecDepth 100000 in
theorem bgt_7 : ∀ w ∈ BG_7, w ∈ lw_tbl := bg_in [580, 581, 582, 583, 584, 585, 586, 587, 589, 590, 591, 592, 593, 594, 595, 596, 597, 598, 599, 600, 601, 602, 603, 604, 605, 606, 607, 608, 609, 610, 611, 612, 614, 615, 616, 617, 619, 620, 621, 622, 623, 624, 625, 626, 627, 628, 629, 630, 631, 632, 633, 634, 635, 636, 637, 638, 639, 640, 641, 642, 643, 644, 645, 646] (by decide +kernel)
theorem bgg_7 : BG_7.all goodWord = true := by decide +kernel
def BG_8 : List Cond := [.selects "SeamPull$Plan" ⟨"SeamPull$Plan", "hasAct", "(I)Z"⟩ ⟨"SeamPull$Plan", "hasAct", "(I)Z"⟩, .code ⟨"SeamPull$Plan", "hasAct", "(I)Z"⟩ prog_5_method_6_code 2 (some .boolean), .methodLink "SeamPull" 192 ⟨"SeamPull$Plan", "isStep", "(I)Z"⟩, .instanceMethod ⟨"SeamPull$Plan", "isStep", "(I)Z"⟩, .selects "SeamPull$Plan" ⟨"SeamPull$Plan", "isStep", "(I)Z"⟩ ⟨"SeamPull$Plan", "isStep", "(I)Z"⟩, .code ⟨"SeamPull$Plan", "isStep", "(I)Z"⟩ prog_5_method_7_code 2 (some .boolean), .methodLink "SeamPull$Plan" 49 ⟨"SeamPull$Plan", "hasAct", "(I)Z"⟩, .constant "SeamPull" 198 (-1000000), .methodLink "SeamPullLaw" 53 ⟨"SeamPull", "open", "(II)I"⟩, .instanceMethod ⟨"SeamPull", "open", "(II)I"⟩, .selects "SeamPull" ⟨"SeamPull", "open", "(II)I"⟩ ⟨"SeamPull", "open", "(II)I"⟩, .code ⟨"SeamPull", "open", "(II)I"⟩ prog_1_method_11_code 4 (some .int), .methodLink "SeamPull" 202 ⟨"SeamPull$Plan", "hasCell", "(I)Z"⟩, .instanceMethod ⟨"SeamPull$Plan", "hasCell", "(I)Z"⟩, .selects "SeamPull$Plan" ⟨"SeamPull$Plan", "hasCell", "(I)Z"⟩ ⟨"SeamPull$Plan", "hasCell", "(I)Z"⟩, .code ⟨"SeamPull$Plan", "hasCell", "(I)Z"⟩ prog_5_method_4_code 2 (some .boolean), .methodLink "SeamPullLaw" 57 ⟨"SeamPull", "run", "(II)I"⟩, .instanceMethod ⟨"SeamPull", "run", "(II)I"⟩, .selects "SeamPull" ⟨"SeamPull", "run", "(II)I"⟩ ⟨"SeamPull", "run", "(II)I"⟩, .code ⟨"SeamPull", "run", "(II)I"⟩ prog_1_method_12_code 5 (some .int), .methodLink "SeamPull" 205 ⟨"SeamPull$Plan", "isNone", "()Z"⟩, .instanceMethod ⟨"SeamPull$Plan", "isNone", "()Z"⟩, .selects "SeamPull$Plan" ⟨"SeamPull$Plan", "isNone", "()Z"⟩ ⟨"SeamPull$Plan", "isNone", "()Z"⟩, .code ⟨"SeamPull$Plan", "isNone", "()Z"⟩ prog_5_method_3_code 1 (some .boolean), .constant "SeamPull" 209 (-1000002), .methodLink "SeamPull" 213 ⟨"SeamPull$Shelf", "tellsOrder", "(III)Z"⟩, .instanceMethod ⟨"SeamPull$Shelf", "tellsOrder", "(III)Z"⟩, .selects "SeamPull$Shelf" ⟨"SeamPull$Shelf", "tellsOrder", "(III)Z"⟩ ⟨"SeamPull$Shelf", "tellsOrder", "(III)Z"⟩, .code ⟨"SeamPull$Shelf", "tellsOrder", "(III)Z"⟩ prog_8_method_13_code 7 (some .boolean), .methodLink "SeamPull$Shelf" 47 ⟨"SeamPull$Shelf", "itemAt", "(II)I"⟩, .instanceMethod ⟨"SeamPull$Shelf", "itemAt", "(II)I"⟩, .selects "SeamPull$Shelf" ⟨"SeamPull$Shelf", "itemAt", "(II)I"⟩ ⟨"SeamPull$Shelf", "itemAt", "(II)I"⟩, .code ⟨"SeamPull$Shelf", "itemAt", "(II)I"⟩ prog_8_method_12_code 3 (some .int), .methodLink "SeamPull$Shelf" 43 ⟨"SeamPull$Shelf", "findingAt", "(III)I"⟩, .methodLink "SeamPull" 217 ⟨"SeamPull$Shelf", "itemAt", "(II)I"⟩, .methodLink "SeamPull" 220 ⟨"SeamPull", "standByOrder", "()I"⟩, .instanceMethod ⟨"SeamPull", "standByOrder", "()I"⟩, .code ⟨"SeamPull", "standByOrder", "()I"⟩ prog_1_method_14_code 1 (some .int), .methodLink "SeamPull" 223 ⟨"SeamPull$Panel", "go", "(LSeamPull$Plan;[I[II)V"⟩, .instanceMethod ⟨"SeamPull$Panel", "go", "(LSeamPull$Plan;[I[II)V"⟩, .selects "SeamPull$Panel" ⟨"SeamPull$Panel", "go", "(LSeamPull$Plan;[I[II)V"⟩ ⟨"SeamPull$Panel", "go", "(LSeamPull$Plan;[I[II)V"⟩, .code ⟨"SeamPull$Panel", "go", "(LSeamPull$Plan;[I[II)V"⟩ prog_4_method_4_code 6 (none : Option Jvm.ClassFile.FieldType), .methodLink "SeamPull$Panel" 64 ⟨"SeamPull$Panel", "begin", "(I[I)V"⟩, .methodLink "SeamPull$Panel" 71 ⟨"SeamPull$Panel", "doSeam", "(LSeamPull$Plan;I)V"⟩, .instanceMethod ⟨"SeamPull$Panel", "doSeam", "(LSeamPull$Plan;I)V"⟩, .selects "SeamPull$Panel" ⟨"SeamPull$Panel", "doSeam", "(LSeamPull$Plan;I)V"⟩ ⟨"SeamPull$Panel", "doSeam", "(LSeamPull$Plan;I)V"⟩, .code ⟨"SeamPull$Panel", "doSeam", "(LSeamPull$Plan;I)V"⟩ prog_4_method_5_code 5 (none : Option Jvm.ClassFile.FieldType), .methodLink "SeamPull$Panel" 78 ⟨"SeamPull$Plan", "firstAct", "(I)I"⟩, .instanceMethod ⟨"SeamPull$Plan", "firstAct", "(I)I"⟩, .selects "SeamPull$Plan" ⟨"SeamPull$Plan", "firstAct", "(I)I"⟩ ⟨"SeamPull$Plan", "firstAct", "(I)I"⟩, .code ⟨"SeamPull$Plan", "firstAct", "(I)I"⟩ prog_5_method_12_code 2 (some .int), .methodLink "SeamPull$Panel" 82 ⟨"SeamPull$Plan", "endOfActs", "(I)I"⟩, .instanceMethod ⟨"SeamPull$Plan", "endOfActs", "(I)I"⟩, .selects "SeamPull$Plan" ⟨"SeamPull$Plan", "endOfActs", "(I)I"⟩ ⟨"SeamPull$Plan", "endOfActs", "(I)I"⟩, .code ⟨"SeamPull$Plan", "endOfActs", "(I)I"⟩ prog_5_method_13_code 2 (some .int), .methodLink "SeamPull$Panel" 91 ⟨"SeamPull$Panel", "freeOne", "(I)V"⟩, .instanceMethod ⟨"SeamPull$Panel", "freeOne", "(I)V"⟩, .code ⟨"SeamPull$Panel", "freeOne", "(I)V"⟩ prog_4_method_11_code 2 (none : Option Jvm.ClassFile.FieldType), .methodLink "SeamPull$Panel" 102 ⟨"SeamPull$Panel", "has", "(I)Z"⟩, .instanceMethod ⟨"SeamPull$Panel", "has", "(I)Z"⟩, .code ⟨"SeamPull$Panel", "has", "(I)Z"⟩ prog_4_method_13_code 2 (some .boolean), .methodLink "SeamPull$Panel" 116 ⟨"SeamPull$Panel", "isClamped", "(I)Z"⟩, .instanceMethod ⟨"SeamPull$Panel", "isClamped", "(I)Z"⟩, .code ⟨"SeamPull$Panel", "isClamped", "(I)Z"⟩ prog_4_method_15_code 2 (some .boolean)]
set_option maxRecDepth 100000 in
theorem bgt_8 : ∀ w ∈ BG_8, w ∈ lw_tbl := bg_in [647, 648, 649, 650, 651, 652, 653, 654, 655, 656, 657, 658, 659, 660, 661, 662, 663, 664, 665, 666, 667, 668, 669, 670, 671, 672, 673, 674, 675, 676, 677, 678, 679, 680, 681, 682, 684, 685, 686, 687, 688, 689, 690, 691, 692, 693, 694, 695, 696, 697, 698, 699, 700, 701, 702, 703, 705, 706, 707, 709, 710, 711, 713, 714] (by decide +kernel)
theorem bgg_8 : BG_8.all goodWord = true := by decide +kernel
def BG_9 : List Cond := [.methodLink "SeamPull$Panel" 98 ⟨"SeamPull$Panel", "doStep", "(III)V"⟩, .instanceMethod ⟨"SeamPull$Panel", "doStep", "(III)V"⟩, .code ⟨"SeamPull$Panel", "doStep", "(III)V"⟩ prog_4_method_6_code 5 (none : Option Jvm.ClassFile.FieldType), .methodLink "SeamPull$Panel" 106 ⟨"SeamPull$Panel", "cool", "(I)V"⟩, .instanceMethod ⟨"SeamPull$Panel", "cool", "(I)V"⟩, .code ⟨"SeamPull$Panel", "cool", "(I)V"⟩ prog_4_method_16_code 3 (none : Option Jvm.ClassFile.FieldType), .methodLink "SeamPull$Panel" 109 ⟨"SeamPull$Panel", "shrinkageOf", "(III)I"⟩, .instanceMethod ⟨"SeamPull$Panel", "shrinkageOf", "(III)I"⟩, .code ⟨"SeamPull$Panel", "shrinkageOf", "(III)I"⟩ prog_4_method_8_code 5 (some .int), .methodLink "SeamPull$Panel" 125 ⟨"SeamPull$Panel", "holds", "(I)Z"⟩, .instanceMethod ⟨"SeamPull$Panel", "holds", "(I)Z"⟩, .code ⟨"SeamPull$Panel", "holds", "(I)Z"⟩ prog_4_method_14_code 2 (some .boolean), .methodLink "SeamPull$Panel" 113 ⟨"SeamPull$Panel", "effectOf", "(II)I"⟩, .instanceMethod ⟨"SeamPull$Panel", "effectOf", "(II)I"⟩, .code ⟨"SeamPull$Panel", "effectOf", "(II)I"⟩ prog_4_method_7_code 5 (some .int), .methodLink "SeamPull$Panel" 119 ⟨"SeamPull$Panel", "heatOfStep", "(II)I"⟩, .static ⟨"SeamPull$Panel", "heatOfStep", "(II)I"⟩, .code ⟨"SeamPull$Panel", "heatOfStep", "(II)I"⟩ prog_4_method_9_code 2 (some .int), .methodLink "SeamPull$Panel" 122 ⟨"SeamPull$Panel", "holdOfStep", "(I)I"⟩, .static ⟨"SeamPull$Panel", "holdOfStep", "(I)I"⟩, .code ⟨"SeamPull$Panel", "holdOfStep", "(I)I"⟩ prog_4_method_10_code 1 (some .int), .methodLink "SeamPull$Panel" 75 ⟨"SeamPull$Panel", "freeAll", "()V"⟩, .instanceMethod ⟨"SeamPull$Panel", "freeAll", "()V"⟩, .selects "SeamPull$Panel" ⟨"SeamPull$Panel", "freeAll", "()V"⟩ ⟨"SeamPull$Panel", "freeAll", "()V"⟩, .code ⟨"SeamPull$Panel", "freeAll", "()V"⟩ prog_4_method_12_code 2 (none : Option Jvm.ClassFile.FieldType), .methodLink "SeamPull" 227 ⟨"SeamPull$Panel", "off", "()I"⟩, .instanceMethod ⟨"SeamPull$Panel", "off", "()I"⟩, .selects "SeamPull$Panel" ⟨"SeamPull$Panel", "off", "()I"⟩ ⟨"SeamPull$Panel", "off", "()I"⟩, .code ⟨"SeamPull$Panel", "off", "()I"⟩ prog_4_method_21_code 6 (some .int), .methodLink "SeamPull$Panel" 132 ⟨"SeamPull$Panel", "heightAt", "(I)I"⟩, .instanceMethod ⟨"SeamPull$Panel", "heightAt", "(I)I"⟩, .selects "SeamPull$Panel" ⟨"SeamPull$Panel", "heightAt", "(I)I"⟩ ⟨"SeamPull$Panel", "heightAt", "(I)I"⟩, .code ⟨"SeamPull$Panel", "heightAt", "(I)I"⟩ prog_4_method_20_code 5 (some .int), .methodLink "SeamPull$Panel" 135 ⟨"java/lang/Math", "abs", "(I)I"⟩, .static ⟨"java/lang/Math", "abs", "(I)I"⟩, .code ⟨"java/lang/Math", "abs", "(I)I"⟩ prog_13_method_59_code 1 (some .int), .methodLink "SeamPull$Panel" 138 ⟨"java/lang/Math", "max", "(II)I"⟩, .static ⟨"java/lang/Math", "max", "(II)I"⟩, .code ⟨"java/lang/Math", "max", "(II)I"⟩ prog_13_method_65_code 2 (some .int), .methodLink "SeamPullLaw" 61 ⟨"SeamPull", "runs", "()I"⟩, .instanceMethod ⟨"SeamPull", "runs", "()I"⟩, .selects "SeamPull" ⟨"SeamPull", "runs", "()I"⟩ ⟨"SeamPull", "runs", "()I"⟩, .code ⟨"SeamPull", "runs", "()I"⟩ prog_1_method_13_code 1 (some .int), .methodLink "SeamPullLaw" 65 ⟨"SeamPull", "cell", "(II)I"⟩, .instanceMethod ⟨"SeamPull", "cell", "(II)I"⟩, .selects "SeamPull" ⟨"SeamPull", "cell", "(II)I"⟩ ⟨"SeamPull", "cell", "(II)I"⟩, .code ⟨"SeamPull", "cell", "(II)I"⟩ prog_1_method_15_code 3 (some .int), .methodLink "SeamPull" 230 ⟨"SeamPull$Panel", "heatOf", "(I)I"⟩, .instanceMethod ⟨"SeamPull$Panel", "heatOf", "(I)I"⟩, .selects "SeamPull$Panel" ⟨"SeamPull$Panel", "heatOf", "(I)I"⟩ ⟨"SeamPull$Panel", "heatOf", "(I)I"⟩, .code ⟨"SeamPull$Panel", "heatOf", "(I)I"⟩ prog_4_method_17_code 2 (some .int), .methodLink "SeamPull" 239 ⟨"SeamPull$Panel", "pullOf", "(I)I"⟩, .instanceMethod ⟨"SeamPull$Panel", "pullOf", "(I)I"⟩, .selects "SeamPull$Panel" ⟨"SeamPull$Panel", "pullOf", "(I)I"⟩ ⟨"SeamPull$Panel", "pullOf", "(I)I"⟩, .code ⟨"SeamPull$Panel", "pullOf", "(I)I"⟩ prog_4_method_18_code 2 (some .int), .methodLink "SeamPullLaw" 69 ⟨"SeamPull", "height", "(I)I"⟩, .instanceMethod ⟨"SeamPull", "height", "(I)I"⟩, .selects "SeamPull" ⟨"SeamPull", "height", "(I)I"⟩ ⟨"SeamPull", "height", "(I)I"⟩, .code ⟨"SeamPull", "height", "(I)I"⟩ prog_1_method_16_code 2 (some .int), .methodLink "SeamPull" 242 ⟨"SeamPull$Panel", "heightAt", "(I)I"⟩, .methodLink "SeamPullLaw" 73 ⟨"SeamPull", "minutes", "()I"⟩, .instanceMethod ⟨"SeamPull", "minutes", "()I"⟩, .selects "SeamPull" ⟨"SeamPull", "minutes", "()I"⟩ ⟨"SeamPull", "minutes", "()I"⟩, .code ⟨"SeamPull", "minutes", "()I"⟩ prog_1_method_17_code 1 (some .int)]
set_option maxRecDepth 100000 in
theorem bgt_9 : ∀ w ∈ BG_9, w ∈ lw_tbl := bg_in [715, 717, 718, 719, 721, 722, 723, 725, 726, 727, 729, 730, 731, 733, 734, 735, 736, 737, 738, 739, 740, 741, 742, 743, 744, 745, 746, 747, 748, 749, 750, 751, 752, 753, 754, 755, 756, 757, 758, 759, 760, 761, 762, 763, 764, 765, 766, 767, 768, 769, 770, 771, 772, 773, 774, 775, 776, 777, 778, 779, 780, 781, 782, 783] (by decide +kernel)
theorem bgg_9 : BG_9.all goodWord = true := by decide +kernel
def BG_10 : List Cond := [.methodLink "SeamPullLaw" 77 ⟨"SeamPull", "gives", "(I)I"⟩, .instanceMethod ⟨"SeamPull", "gives", "(I)I"⟩, .selects "SeamPull" ⟨"SeamPull", "gives", "(I)I"⟩ ⟨"SeamPull", "gives", "(I)I"⟩, .code ⟨"SeamPull", "gives", "(I)I"⟩ prog_1_method_18_code 3 (some .int), .methodLink "SeamPull" 248 ⟨"SeamPull$Plan", "hasSeam", "(I)Z"⟩, .methodLink "SeamPullLaw" 81 ⟨"SeamPull", "best", "(I)I"⟩, .instanceMethod ⟨"SeamPull", "best", "(I)I"⟩, .selects "SeamPull" ⟨"SeamPull", "best", "(I)I"⟩ ⟨"SeamPull", "best", "(I)I"⟩, .code ⟨"SeamPull", "best", "(I)I"⟩ prog_1_method_19_code 2 (some .int), .methodLink "SeamPull" 251 ⟨"SeamPull$Search", "look", "(LSeamPull$Plan;[I)V"⟩, .instanceMethod ⟨"SeamPull$Search", "look", "(LSeamPull$Plan;[I)V"⟩, .selects "SeamPull$Search" ⟨"SeamPull$Search", "look", "(LSeamPull$Plan;[I)V"⟩ ⟨"SeamPull$Search", "look", "(LSeamPull$Plan;[I)V"⟩, .code ⟨"SeamPull$Search", "look", "(LSeamPull$Plan;[I)V"⟩ prog_7_method_3_code 3 (none : Option Jvm.ClassFile.FieldType), .methodLink "SeamPull$Search" 44 ⟨"SeamPull$Panel", "begin", "(I[I)V"⟩, .methodLink "SeamPull$Search" 48 ⟨"SeamPull$Search", "tryFrom", "(LSeamPull$Plan;II)V"⟩, .instanceMethod ⟨"SeamPull$Search", "tryFrom", "(LSeamPull$Plan;II)V"⟩, .code ⟨"SeamPull$Search", "tryFrom", "(LSeamPull$Plan;II)V"⟩ prog_7_method_4_code 5 (none : Option Jvm.ClassFile.FieldType), .methodLink "SeamPull$Search" 55 ⟨"SeamPull$Search", "weigh", "(LSeamPull$Panel;I)V"⟩, .instanceMethod ⟨"SeamPull$Search", "weigh", "(LSeamPull$Panel;I)V"⟩, .code ⟨"SeamPull$Search", "weigh", "(LSeamPull$Panel;I)V"⟩ prog_7_method_5_code 4 (none : Option Jvm.ClassFile.FieldType), .methodLink "SeamPull$Search" 71 ⟨"SeamPull$Panel", "freeAll", "()V"⟩, .methodLink "SeamPull$Search" 74 ⟨"SeamPull$Panel", "off", "()I"⟩, .methodLink "SeamPull$Search" 78 ⟨"java/lang/System", "arraycopy", "(Ljava/lang/Object;ILjava/lang/Object;II)V"⟩, .methodLink "SeamPull$Search" 59 ⟨"SeamPull$Plan", "mayFollow", "(II)Z"⟩, .instanceMethod ⟨"SeamPull$Plan", "mayFollow", "(II)Z"⟩, .selects "SeamPull$Plan" ⟨"SeamPull$Plan", "mayFollow", "(II)Z"⟩ ⟨"SeamPull$Plan", "mayFollow", "(II)Z"⟩, .code ⟨"SeamPull$Plan", "mayFollow", "(II)Z"⟩ prog_5_method_14_code 3 (some .boolean), .methodLink "SeamPull$Search" 63 ⟨"SeamPull$Panel", "becomeAs", "(LSeamPull$Panel;)V"⟩, .instanceMethod ⟨"SeamPull$Panel", "becomeAs", "(LSeamPull$Panel;)V"⟩, .selects "SeamPull$Panel" ⟨"SeamPull$Panel", "becomeAs", "(LSeamPull$Panel;)V"⟩ ⟨"SeamPull$Panel", "becomeAs", "(LSeamPull$Panel;)V"⟩, .code ⟨"SeamPull$Panel", "becomeAs", "(LSeamPull$Panel;)V"⟩ prog_4_method_3_code 2 (none : Option Jvm.ClassFile.FieldType), .methodLink "SeamPull$Search" 67 ⟨"SeamPull$Panel", "doSeam", "(LSeamPull$Plan;I)V"⟩, .methodLink "SeamPullLaw" 85 ⟨"SeamPull", "orders", "()I"⟩, .instanceMethod ⟨"SeamPull", "orders", "()I"⟩, .selects "SeamPull" ⟨"SeamPull", "orders", "()I"⟩ ⟨"SeamPull", "orders", "()I"⟩, .code ⟨"SeamPull", "orders", "()I"⟩ prog_1_method_20_code 1 (some .int), .methodLink "SeamPull" 264 ⟨"SeamPull$Search", "howManyFit", "(LSeamPull$Plan;)I"⟩, .instanceMethod ⟨"SeamPull$Search", "howManyFit", "(LSeamPull$Plan;)I"⟩, .selects "SeamPull$Search" ⟨"SeamPull$Search", "howManyFit", "(LSeamPull$Plan;)I"⟩ ⟨"SeamPull$Search", "howManyFit", "(LSeamPull$Plan;)I"⟩, .code ⟨"SeamPull$Search", "howManyFit", "(LSeamPull$Plan;)I"⟩ prog_7_method_6_code 5 (some .int), .methodLink "SeamPull$Search" 84 ⟨"java/util/Arrays", "fill", "([II)V"⟩, .methodLink "SeamPullLaw" 89 ⟨"SeamPull", "beforehand", "(I)I"⟩, .instanceMethod ⟨"SeamPull", "beforehand", "(I)I"⟩, .selects "SeamPull" ⟨"SeamPull", "beforehand", "(I)I"⟩ ⟨"SeamPull", "beforehand", "(I)I"⟩, .code ⟨"SeamPull", "beforehand", "(I)I"⟩ prog_1_method_21_code 2 (some .int), .methodLink "SeamPull" 267 ⟨"SeamPull$Beforehand", "look", "(LSeamPull$Plan;LSeamPull$Panel;)V"⟩, .instanceMethod ⟨"SeamPull$Beforehand", "look", "(LSeamPull$Plan;LSeamPull$Panel;)V"⟩, .selects "SeamPull$Beforehand" ⟨"SeamPull$Beforehand", "look", "(LSeamPull$Plan;LSeamPull$Panel;)V"⟩ ⟨"SeamPull$Beforehand", "look", "(LSeamPull$Plan;LSeamPull$Panel;)V"⟩, .code ⟨"SeamPull$Beforehand", "look", "(LSeamPull$Plan;LSeamPull$Panel;)V"⟩ prog_3_method_3_code 5 (none : Option Jvm.ClassFile.FieldType), .constant "SeamPull$Beforehand" 22 (-1000000), .methodLink "SeamPull$Beforehand" 23 ⟨"java/util/Arrays", "fill", "([II)V"⟩, .methodLink "SeamPull$Beforehand" 32 ⟨"SeamPull$Panel", "go", "(LSeamPull$Plan;[I[II)V"⟩, .methodLink "SeamPull$Beforehand" 38 ⟨"SeamPull$Beforehand", "keepWhereFlat", "(LSeamPull$Panel;I)V"⟩, .instanceMethod ⟨"SeamPull$Beforehand", "keepWhereFlat", "(LSeamPull$Panel;I)V"⟩, .code ⟨"SeamPull$Beforehand", "keepWhereFlat", "(LSeamPull$Panel;I)V"⟩ prog_3_method_4_code 4 (none : Option Jvm.ClassFile.FieldType), .methodLink "SeamPullLaw" 93 ⟨"SeamPull", "spots", "(II)I"⟩, .instanceMethod ⟨"SeamPull", "spots", "(II)I"⟩, .selects "SeamPull" ⟨"SeamPull", "spots", "(II)I"⟩ ⟨"SeamPull", "spots", "(II)I"⟩, .code ⟨"SeamPull", "spots", "(II)I"⟩ prog_1_method_22_code 7 (some .int), .methodLink "SeamPull" 273 ⟨"java/lang/Integer", "bitCount", "(I)I"⟩, .static ⟨"java/lang/Integer", "bitCount", "(I)I"⟩, .code ⟨"java/lang/Integer", "bitCount", "(I)I"⟩ prog_12_method_49_code 1 (some .int), .constant "java/lang/Integer" 265 (1431655765), .constant "java/lang/Integer" 266 (858993459)]
set_option maxRecDepth 100000 in
theorem bgt_10 : ∀ w ∈ BG_10, w ∈ lw_tbl := bg_in [784, 785, 786, 787, 788, 789, 790, 791, 792, 793, 794, 795, 796, 797, 798, 800, 801, 802, 804, 805, 806, 807, 808, 809, 810, 811, 812, 813, 814, 815, 816, 817, 818, 819, 820, 821, 822, 823, 824, 825, 826, 827, 828, 829, 830, 831, 832, 833, 834, 835, 836, 838, 839, 841, 842, 843, 844, 845, 846, 847, 848, 849, 850, 851] (by decide +kernel)
theorem bgg_10 : BG_10.all goodWord = true := by decide +kernel
def BG_11 : List Cond := [.constant "java/lang/Integer" 267 (252645135), .methodLink "SeamPull" 278 ⟨"SeamPull", "drawDown", "(III)Z"⟩, .instanceMethod ⟨"SeamPull", "drawDown", "(III)Z"⟩, .code ⟨"SeamPull", "drawDown", "(III)Z"⟩ prog_1_method_23_code 5 (some .boolean), .methodLink "SeamPull" 281 ⟨"SeamPull", "spotAt", "(II)V"⟩, .instanceMethod ⟨"SeamPull", "spotAt", "(II)V"⟩, .code ⟨"SeamPull", "spotAt", "(II)V"⟩ prog_1_method_24_code 3 (none : Option Jvm.ClassFile.FieldType), .methodLink "SeamPull" 290 ⟨"java/lang/Math", "max", "(II)I"⟩, .methodLink "SeamPull" 293 ⟨"java/lang/Math", "min", "(II)I"⟩, .methodLink "SeamPull" 285 ⟨"java/lang/Math", "abs", "(I)I"⟩, .methodLink "SeamPullLaw" 97 ⟨"SeamPull", "crack", "(I)I"⟩, .instanceMethod ⟨"SeamPull", "crack", "(I)I"⟩, .selects "SeamPull" ⟨"SeamPull", "crack", "(I)I"⟩ ⟨"SeamPull", "crack", "(I)I"⟩, .code ⟨"SeamPull", "crack", "(I)I"⟩ prog_1_method_25_code 2 (some .int), .methodLink "SeamPull" 296 ⟨"SeamPull$Panel", "firstAbove", "(I)I"⟩, .instanceMethod ⟨"SeamPull$Panel", "firstAbove", "(I)I"⟩, .selects "SeamPull$Panel" ⟨"SeamPull$Panel", "firstAbove", "(I)I"⟩ ⟨"SeamPull$Panel", "firstAbove", "(I)I"⟩, .code ⟨"SeamPull$Panel", "firstAbove", "(I)I"⟩ prog_4_method_19_code 3 (some .int), .methodLink "SeamPull$Panel" 128 ⟨"SeamPull$Panel", "pullOf", "(I)I"⟩, .constant "SeamPull$Panel" 131 (-1000000), .methodLink "SeamPullLaw" 101 ⟨"SeamPull", "warm", "()I"⟩, .instanceMethod ⟨"SeamPull", "warm", "()I"⟩, .selects "SeamPull" ⟨"SeamPull", "warm", "()I"⟩ ⟨"SeamPull", "warm", "()I"⟩, .code ⟨"SeamPull", "warm", "()I"⟩ prog_1_method_26_code 2 (some .int), .methodLink "SeamPullLaw" 105 ⟨"SeamPull", "wire", "(III)I"⟩, .instanceMethod ⟨"SeamPull", "wire", "(III)I"⟩, .selects "SeamPull" ⟨"SeamPull", "wire", "(III)I"⟩ ⟨"SeamPull", "wire", "(III)I"⟩, .code ⟨"SeamPull", "wire", "(III)I"⟩ prog_1_method_27_code 5 (some .int), .methodLink "SeamPull" 299 ⟨"SeamPull$Shelf", "allWithin", "(IIII)Z"⟩, .instanceMethod ⟨"SeamPull$Shelf", "allWithin", "(IIII)Z"⟩, .selects "SeamPull$Shelf" ⟨"SeamPull$Shelf", "allWithin", "(IIII)Z"⟩ ⟨"SeamPull$Shelf", "allWithin", "(IIII)Z"⟩, .code ⟨"SeamPull$Shelf", "allWithin", "(IIII)Z"⟩ prog_8_method_14_code 7 (some .boolean), .methodLink "SeamPull" 303 ⟨"SeamPull", "steelOf", "(II)I"⟩, .instanceMethod ⟨"SeamPull", "steelOf", "(II)I"⟩, .code ⟨"SeamPull", "steelOf", "(II)I"⟩ prog_1_method_29_code 4 (some .int), .methodLink "SeamPull" 309 ⟨"SeamPull", "isSteel", "(III)Z"⟩, .instanceMethod ⟨"SeamPull", "isSteel", "(III)Z"⟩, .code ⟨"SeamPull", "isSteel", "(III)Z"⟩ prog_1_method_30_code 5 (some .boolean), .methodLink "SeamPull" 306 ⟨"SeamPull", "wireBend", "(III)I"⟩, .instanceMethod ⟨"SeamPull", "wireBend", "(III)I"⟩, .code ⟨"SeamPull", "wireBend", "(III)I"⟩ prog_1_method_28_code 7 (some .int), .methodLink "SeamPullLaw" 109 ⟨"SeamPull", "kind", "(I)I"⟩, .instanceMethod ⟨"SeamPull", "kind", "(I)I"⟩, .selects "SeamPull" ⟨"SeamPull", "kind", "(I)I"⟩ ⟨"SeamPull", "kind", "(I)I"⟩, .code ⟨"SeamPull", "kind", "(I)I"⟩ prog_1_method_31_code 2 (some .int), .methodLink "SeamPull" 312 ⟨"SeamPull$Plan", "stepKind", "(I)I"⟩, .instanceMethod ⟨"SeamPull$Plan", "stepKind", "(I)I"⟩, .selects "SeamPull$Plan" ⟨"SeamPull$Plan", "stepKind", "(I)I"⟩ ⟨"SeamPull$Plan", "stepKind", "(I)I"⟩, .code ⟨"SeamPull$Plan", "stepKind", "(I)I"⟩ prog_5_method_8_code 2 (some .int), .methodLink "SeamPullLaw" 113 ⟨"SeamPull", "as", "(II)I"⟩, .instanceMethod ⟨"SeamPull", "as", "(II)I"⟩, .selects "SeamPull" ⟨"SeamPull", "as", "(II)I"⟩ ⟨"SeamPull", "as", "(II)I"⟩, .code ⟨"SeamPull", "as", "(II)I"⟩ prog_1_method_32_code 3 (some .int), .methodLink "SeamPull" 315 ⟨"SeamPull$Asks", "hasKind", "(I)Z"⟩, .static ⟨"SeamPull$Asks", "hasKind", "(I)Z"⟩, .code ⟨"SeamPull$Asks", "hasKind", "(I)Z"⟩ prog_2_method_2_code 1 (some .boolean), .methodLink "SeamPull" 318 ⟨"SeamPull$Asks", "isOfKind", "(II)Z"⟩, .static ⟨"SeamPull$Asks", "isOfKind", "(II)Z"⟩, .code ⟨"SeamPull$Asks", "isOfKind", "(II)Z"⟩ prog_2_method_3_code 4 (some .boolean), .methodLink "SeamPull$Asks" 19 ⟨"SeamPull$Asks", "hasKind", "(I)Z"⟩, .fieldLink "SeamPull$Asks" 23 "SeamPull$Asks" "NEAREST" "[I", .methodLink "SeamPullLaw" 117 ⟨"SeamPull", "ask", "(II)I"⟩, .instanceMethod ⟨"SeamPull", "ask", "(II)I"⟩, .selects "SeamPull" ⟨"SeamPull", "ask", "(II)I"⟩ ⟨"SeamPull", "ask", "(II)I"⟩]
set_option maxRecDepth 100000 in
theorem bgt_11 : ∀ w ∈ BG_11, w ∈ lw_tbl := bg_in [852, 853, 855, 856, 857, 859, 860, 861, 862, 863, 864, 865, 866, 867, 868, 869, 870, 871, 872, 873, 874, 875, 876, 877, 878, 879, 880, 881, 882, 883, 884, 885, 886, 888, 889, 890, 892, 893, 894, 896, 897, 898, 899, 900, 901, 902, 903, 904, 905, 906, 907, 908, 909, 910, 911, 912, 913, 914, 915, 916, 917, 919, 920, 921] (by decide +kernel)
theorem bgg_11 : BG_11.all goodWord = true := by decide +kernel
def BG_12 : List Cond := [.code ⟨"SeamPull", "ask", "(II)I"⟩ prog_1_method_33_code 3 (some .int), .methodLink "SeamPull" 322 ⟨"SeamPull$Asks", "answerOf", "(LSeamPull$Plan;II)I"⟩, .instanceMethod ⟨"SeamPull$Asks", "answerOf", "(LSeamPull$Plan;II)I"⟩, .selects "SeamPull$Asks" ⟨"SeamPull$Asks", "answerOf", "(LSeamPull$Plan;II)I"⟩ ⟨"SeamPull$Asks", "answerOf", "(LSeamPull$Plan;II)I"⟩, .code ⟨"SeamPull$Asks", "answerOf", "(LSeamPull$Plan;II)I"⟩ prog_2_method_5_code 4 (some .int), .methodLink "SeamPull$Asks" 32 ⟨"SeamPull$Asks", "asked", "(LSeamPull$Plan;III)I"⟩, .instanceMethod ⟨"SeamPull$Asks", "asked", "(LSeamPull$Plan;III)I"⟩, .code ⟨"SeamPull$Asks", "asked", "(LSeamPull$Plan;III)I"⟩ prog_2_method_6_code 5 (some .int), .methodLink "SeamPull$Asks" 36 ⟨"SeamPull$Plan", "stepKind", "(I)I"⟩, .methodLink "SeamPull$Asks" 42 ⟨"SeamPull$Asks", "bodyFor", "(II)I"⟩, .static ⟨"SeamPull$Asks", "bodyFor", "(II)I"⟩, .code ⟨"SeamPull$Asks", "bodyFor", "(II)I"⟩ prog_2_method_4_code 5 (some .int), .fieldLink "SeamPull$Asks" 26 "SeamPull$Asks" "SIZE_BODY" "[I", .fieldLink "SeamPull$Asks" 29 "SeamPull$Asks" "MARK_BODY" "[I", .methodLink "SeamPull$Asks" 46 ⟨"SeamPull$Asks", "given", "(LSeamPull$Plan;III)I"⟩, .instanceMethod ⟨"SeamPull$Asks", "given", "(LSeamPull$Plan;III)I"⟩, .code ⟨"SeamPull$Asks", "given", "(LSeamPull$Plan;III)I"⟩ prog_2_method_7_code 5 (some .int), .methodLink "SeamPull$Asks" 49 ⟨"SeamPull$Asks", "leave", "(I)V"⟩, .instanceMethod ⟨"SeamPull$Asks", "leave", "(I)V"⟩, .code ⟨"SeamPull$Asks", "leave", "(I)V"⟩ prog_2_method_8_code 2 (none : Option Jvm.ClassFile.FieldType), .methodLink "SeamPullLaw" 121 ⟨"SeamPull", "trace", "(I)I"⟩, .instanceMethod ⟨"SeamPull", "trace", "(I)I"⟩, .selects "SeamPull" ⟨"SeamPull", "trace", "(I)I"⟩ ⟨"SeamPull", "trace", "(I)I"⟩, .code ⟨"SeamPull", "trace", "(I)I"⟩ prog_1_method_34_code 2 (some .int), .methodLink "SeamPull" 326 ⟨"SeamPull$Asks", "traced", "(I)I"⟩, .instanceMethod ⟨"SeamPull$Asks", "traced", "(I)I"⟩, .selects "SeamPull$Asks" ⟨"SeamPull$Asks", "traced", "(I)I"⟩ ⟨"SeamPull$Asks", "traced", "(I)I"⟩, .code ⟨"SeamPull$Asks", "traced", "(I)I"⟩ prog_2_method_9_code 2 (some .int), .constant "SeamPull$Asks" 56 (-1000000), .methodLink "SeamPullLaw" 125 ⟨"SeamPull", "count", "(I)I"⟩, .instanceMethod ⟨"SeamPull", "count", "(I)I"⟩, .selects "SeamPull" ⟨"SeamPull", "count", "(I)I"⟩ ⟨"SeamPull", "count", "(I)I"⟩, .code ⟨"SeamPull", "count", "(I)I"⟩ prog_1_method_35_code 2 (some .int), .methodLink "SeamPull" 329 ⟨"SeamPull$Shelf", "howMany", "()I"⟩, .instanceMethod ⟨"SeamPull$Shelf", "howMany", "()I"⟩, .selects "SeamPull$Shelf" ⟨"SeamPull$Shelf", "howMany", "()I"⟩ ⟨"SeamPull$Shelf", "howMany", "()I"⟩, .code ⟨"SeamPull$Shelf", "howMany", "()I"⟩ prog_8_method_4_code 3 (some .int), .methodLink "SeamPullLaw" 129 ⟨"SeamPull", "status", "()I"⟩, .instanceMethod ⟨"SeamPull", "status", "()I"⟩, .selects "SeamPull" ⟨"SeamPull", "status", "()I"⟩ ⟨"SeamPull", "status", "()I"⟩, .code ⟨"SeamPull", "status", "()I"⟩ prog_1_method_36_code 1 (some .int), .classLink "SeamPullLaw" 10 "SeamPullModel", .instantiable "SeamPullModel" 43, .methodLink "SeamPullLaw" 12 ⟨"SeamPullModel", "<init>", "()V"⟩, .instanceMethod ⟨"SeamPullModel", "<init>", "()V"⟩, .code ⟨"SeamPullModel", "<init>", "()V"⟩ prog_11_method_1_code 1 (none : Option Jvm.ClassFile.FieldType), .methodLink "SeamPullModel" 1 ⟨"java/lang/Object", "<init>", "()V"⟩, .fieldLink "SeamPullModel" 71 "SeamPullModel" "thrown" "I", .fieldLink "SeamPullModel" 75 "SeamPullModel" "status" "I", .fieldLink "SeamPullModel" 7 "SeamPullModel" "lane" "[I", .fieldLink "SeamPullModel" 13 "SeamPullModel" "many" "[I", .fieldLink "SeamPullModel" 16 "SeamPullModel" "item" "[I", .fieldLink "SeamPullModel" 212 "SeamPullModel" "cells" "I", .fieldLink "SeamPullModel" 215 "SeamPullModel" "seams" "I", .fieldLink "SeamPullModel" 218 "SeamPullModel" "acts" "I", .fieldLink "SeamPullModel" 221 "SeamPullModel" "befores" "I", .fieldLink "SeamPullModel" 19 "SeamPullModel" "act" "[I", .fieldLink "SeamPullModel" 22 "SeamPullModel" "ahead" "[I", .fieldLink "SeamPullModel" 25 "SeamPullModel" "behind" "[I", .fieldLink "SeamPullModel" 177 "SeamPullModel" "newCells" "I", .fieldLink "SeamPullModel" 180 "SeamPullModel" "newSeams" "I", .fieldLink "SeamPullModel" 170 "SeamPullModel" "newActs" "I", .fieldLink "SeamPullModel" 193 "SeamPullModel" "newBefores" "I", .fieldLink "SeamPullModel" 28 "SeamPullModel" "newAct" "[I"]
set_option maxRecDepth 100000 in
theorem bgt_12 : ∀ w ∈ BG_12, w ∈ lw_tbl := bg_in [922, 923, 924, 925, 926, 927, 929, 930, 931, 932, 933, 934, 935, 937, 939, 941, 942, 943, 945, 946, 947, 948, 949, 950, 951, 952, 953, 954, 955, 956, 957, 958, 959, 960, 961, 962, 963, 964, 965, 966, 967, 968, 969, 970, 971, 972, 973, 974, 975, 976, 977, 978, 979, 980, 981, 982, 983, 984, 985, 986, 987, 988, 989, 990] (by decide +kernel)
theorem bgg_12 : BG_12.all goodWord = true := by decide +kernel
def BG_13 : List Cond := [.fieldLink "SeamPullModel" 31 "SeamPullModel" "newAhead" "[I", .fieldLink "SeamPullModel" 34 "SeamPullModel" "newBehind" "[I", .fieldLink "SeamPullModel" 37 "SeamPullModel" "tape" "[I", .fieldLink "SeamPullModel" 98 "SeamPullModel" "taped" "I", .fieldLink "SeamPullModel" 208 "SeamPullModel" "latest" "I", .fieldLink "SeamPullModel" 104 "SeamPullModel" "length" "I", .fieldLink "SeamPullModel" 108 "SeamPullModel" "cursor" "I", .fieldLink "SeamPullModel" 117 "SeamPullModel" "token" "I", .fieldLink "SeamPullModel" 114 "SeamPullModel" "from" "I", .fieldLink "SeamPullModel" 126 "SeamPullModel" "till" "I", .fieldLink "SeamPullModel" 129 "SeamPullModel" "fault" "I", .fieldLink "SeamPullModel" 132 "SeamPullModel" "faultAt" "I", .fieldLink "SeamPullModel" 40 "SeamPullModel" "opened" "[I", .fieldLink "SeamPullModel" 43 "SeamPullModel" "lastOrder" "[I", .fieldLink "SeamPullModel" 224 "SeamPullModel" "isRun" "Z", .fieldLink "SeamPullModel" 46 "SeamPullModel" "now" "[I", .fieldLink "SeamPullModel" 49 "SeamPullModel" "spring" "[I", .fieldLink "SeamPullModel" 52 "SeamPullModel" "isClamped" "[Z", .fieldLink "SeamPullModel" 240 "SeamPullModel" "went" "I", .fieldLink "SeamPullModel" 56 "SeamPullModel" "left" "[I", .fieldLink "SeamPullModel" 270 "SeamPullModel" "leftMinutes" "I", .fieldLink "SeamPullModel" 59 "SeamPullModel" "begins" "[I", .fieldLink "SeamPullModel" 62 "SeamPullModel" "order" "[I", .fieldLink "SeamPullModel" 65 "SeamPullModel" "bestOrder" "[I", .fieldLink "SeamPullModel" 68 "SeamPullModel" "trace" "[I", .fieldLink "SeamPullModel" 332 "SeamPullModel" "traced" "I", .lays "SeamPullModel" "SeamPullModel" "thrown" "I", .lays "SeamPullModel" "SeamPullModel" "status" "I", .laysFinal "SeamPullModel" "SeamPullModel" "lane" "[I", .laysFinal "SeamPullModel" "SeamPullModel" "many" "[I", .laysFinal "SeamPullModel" "SeamPullModel" "item" "[I", .lays "SeamPullModel" "SeamPullModel" "cells" "I", .lays "SeamPullModel" "SeamPullModel" "seams" "I", .lays "SeamPullModel" "SeamPullModel" "acts" "I", .lays "SeamPullModel" "SeamPullModel" "befores" "I", .laysFinal "SeamPullModel" "SeamPullModel" "act" "[I", .laysFinal "SeamPullModel" "SeamPullModel" "ahead" "[I", .laysFinal "SeamPullModel" "SeamPullModel" "behind" "[I", .lays "SeamPullModel" "SeamPullModel" "newCells" "I", .lays "SeamPullModel" "SeamPullModel" "newSeams" "I", .lays "SeamPullModel" "SeamPullModel" "newActs" "I", .lays "SeamPullModel" "SeamPullModel" "newBefores" "I", .laysFinal "SeamPullModel" "SeamPullModel" "newAct" "[I", .laysFinal "SeamPullModel" "SeamPullModel" "newAhead" "[I", .laysFinal "SeamPullModel" "SeamPullModel" "newBehind" "[I", .laysFinal "SeamPullModel" "SeamPullModel" "tape" "[I", .lays "SeamPullModel" "SeamPullModel" "taped" "I", .lays "SeamPullModel" "SeamPullModel" "latest" "I", .lays "SeamPullModel" "SeamPullModel" "length" "I", .lays "SeamPullModel" "SeamPullModel" "cursor" "I", .lays "SeamPullModel" "SeamPullModel" "token" "I", .lays "SeamPullModel" "SeamPullModel" "from" "I", .lays "SeamPullModel" "SeamPullModel" "till" "I", .lays "SeamPullModel" "SeamPullModel" "fault" "I", .lays "SeamPullModel" "SeamPullModel" "faultAt" "I", .laysFinal "SeamPullModel" "SeamPullModel" "opened" "[I", .laysFinal "SeamPullModel" "SeamPullModel" "lastOrder" "[I", .lays "SeamPullModel" "SeamPullModel" "isRun" "Z", .laysFinal "SeamPullModel" "SeamPullModel" "now" "[I", .laysFinal "SeamPullModel" "SeamPullModel" "spring" "[I", .laysFinal "SeamPullModel" "SeamPullModel" "isClamped" "[Z", .lays "SeamPullModel" "SeamPullModel" "went" "I", .laysFinal "SeamPullModel" "SeamPullModel" "left" "[I", .lays "SeamPullModel" "SeamPullModel" "leftMinutes" "I"]
set_option maxRecDepth 100000 in
theorem bgt_13 : ∀ w ∈ BG_13, w ∈ lw_tbl := bg_in [991, 992, 993, 994, 995, 996, 997, 998, 999, 1000, 1001, 1002, 1003, 1004, 1005, 1006, 1007, 1008, 1009, 1010, 1011, 1012, 1013, 1014, 1015, 1016, 1017, 1019, 1021, 1023, 1025, 1027, 1029, 1031, 1033, 1035, 1037, 1039, 1041, 1043, 1045, 1047, 1049, 1051, 1053, 1055, 1057, 1059, 1061, 1063, 1065, 1067, 1069, 1071, 1073, 1075, 1077, 1079, 1081, 1083, 1085, 1087, 1089, 1091] (by decide +kernel)
theorem bgg_13 : BG_13.all goodWord = true := by decide +kernel
def BG_14 : List Cond := [.laysFinal "SeamPullModel" "SeamPullModel" "begins" "[I", .laysFinal "SeamPullModel" "SeamPullModel" "order" "[I", .laysFinal "SeamPullModel" "SeamPullModel" "bestOrder" "[I", .laysFinal "SeamPullModel" "SeamPullModel" "trace" "[I", .lays "SeamPullModel" "SeamPullModel" "traced" "I", .arrayClass .boolean, .methodLink "SeamPullLaw" 17 ⟨"SeamPullModel", "sheet", "(III)I"⟩, .instanceMethod ⟨"SeamPullModel", "sheet", "(III)I"⟩, .selects "SeamPullModel" ⟨"SeamPullModel", "sheet", "(III)I"⟩ ⟨"SeamPullModel", "sheet", "(III)I"⟩, .code ⟨"SeamPullModel", "sheet", "(III)I"⟩ prog_11_method_6_code 5 (some .int), .methodLink "SeamPullModel" 85 ⟨"SeamPullModel", "isSheet", "(I)Z"⟩, .static ⟨"SeamPullModel", "isSheet", "(I)Z"⟩, .code ⟨"SeamPullModel", "isSheet", "(I)Z"⟩ prog_11_method_5_code 1 (some .boolean), .constantLong "SeamPullModel" 79 (7), .methodLink "SeamPullModel" 81 ⟨"SeamPullModel", "in", "(JJJ)Z"⟩, .static ⟨"SeamPullModel", "in", "(JJJ)Z"⟩, .code ⟨"SeamPullModel", "in", "(JJJ)Z"⟩ prog_11_method_3_code 6 (some .boolean), .constantLong "SeamPullModel" 89 (2), .constant "SeamPullModel" 91 (-1000001), .methodLink "SeamPullModel" 92 ⟨"SeamPullModel", "finding", "(I)I"⟩, .instanceMethod ⟨"SeamPullModel", "finding", "(I)I"⟩, .code ⟨"SeamPullModel", "finding", "(I)I"⟩ prog_11_method_4_code 2 (some .int), .constant "SeamPullModel" 78 (-1000010), .methodLink "SeamPullLaw" 21 ⟨"SeamPullModel", "set", "(III)I"⟩, .instanceMethod ⟨"SeamPullModel", "set", "(III)I"⟩, .selects "SeamPullModel" ⟨"SeamPullModel", "set", "(III)I"⟩ ⟨"SeamPullModel", "set", "(III)I"⟩, .code ⟨"SeamPullModel", "set", "(III)I"⟩ prog_11_method_7_code 4 (some .int), .methodLink "SeamPullLaw" 26 ⟨"SeamPullModel", "copy", "(IIIII)I"⟩, .instanceMethod ⟨"SeamPullModel", "copy", "(IIIII)I"⟩, .selects "SeamPullModel" ⟨"SeamPullModel", "copy", "(IIIII)I"⟩ ⟨"SeamPullModel", "copy", "(IIIII)I"⟩, .code ⟨"SeamPullModel", "copy", "(IIIII)I"⟩ prog_11_method_8_code 9 (some .int), .methodLink "SeamPullLaw" 31 ⟨"SeamPullModel", "drop", "(I)I"⟩, .instanceMethod ⟨"SeamPullModel", "drop", "(I)I"⟩, .selects "SeamPullModel" ⟨"SeamPullModel", "drop", "(I)I"⟩ ⟨"SeamPullModel", "drop", "(I)I"⟩, .code ⟨"SeamPullModel", "drop", "(I)I"⟩ prog_11_method_9_code 2 (some .int), .methodLink "SeamPullLaw" 38 ⟨"SeamPullModel", "feed", "(JI)I"⟩, .instanceMethod ⟨"SeamPullModel", "feed", "(JI)I"⟩, .selects "SeamPullModel" ⟨"SeamPullModel", "feed", "(JI)I"⟩ ⟨"SeamPullModel", "feed", "(JI)I"⟩, .code ⟨"SeamPullModel", "feed", "(JI)I"⟩ prog_11_method_10_code 5 (some .int), .constantLong "SeamPullModel" 96 (8), .constant "SeamPullModel" 101 (-1000003), .constantLong "SeamPullModel" 102 (255), .methodLink "SeamPullLaw" 43 ⟨"SeamPullModel", "plan", "()I"⟩, .instanceMethod ⟨"SeamPullModel", "plan", "()I"⟩, .selects "SeamPullModel" ⟨"SeamPullModel", "plan", "()I"⟩ ⟨"SeamPullModel", "plan", "()I"⟩, .code ⟨"SeamPullModel", "plan", "()I"⟩ prog_11_method_24_code 2 (some .int), .methodLink "SeamPullModel" 139 ⟨"SeamPullModel", "next", "()V"⟩, .instanceMethod ⟨"SeamPullModel", "next", "()V"⟩, .code ⟨"SeamPullModel", "next", "()V"⟩ prog_11_method_14_code 2 (none : Option Jvm.ClassFile.FieldType), .methodLink "SeamPullModel" 111 ⟨"SeamPullModel", "byteAt", "(I)I"⟩, .instanceMethod ⟨"SeamPullModel", "byteAt", "(I)I"⟩, .code ⟨"SeamPullModel", "byteAt", "(I)I"⟩ prog_11_method_11_code 2 (some .int), .constant "SeamPullModel" 107 (-1000000), .methodLink "SeamPullModel" 120 ⟨"SeamPullModel", "isLetter", "(I)Z"⟩, .static ⟨"SeamPullModel", "isLetter", "(I)Z"⟩, .code ⟨"SeamPullModel", "isLetter", "(I)Z"⟩ prog_11_method_12_code 1 (some .boolean), .methodLink "SeamPullModel" 123 ⟨"SeamPullModel", "isFigure", "(I)Z"⟩, .static ⟨"SeamPullModel", "isFigure", "(I)Z"⟩, .code ⟨"SeamPullModel", "isFigure", "(I)Z"⟩ prog_11_method_13_code 1 (some .boolean), .methodLink "SeamPullModel" 146 ⟨"SeamPullModel", "word", "()J"⟩, .instanceMethod ⟨"SeamPullModel", "word", "()J"⟩, .code ⟨"SeamPullModel", "word", "()J"⟩ prog_11_method_17_code 4 (some .long), .constantLong "SeamPullModel" 198 (482670962028), .methodLink "SeamPullModel" 142 ⟨"SeamPullModel", "must", "(Z)V"⟩]
set_option maxRecDepth 100000 in
theorem bgt_14 : ∀ w ∈ BG_14, w ∈ lw_tbl := bg_in [1093, 1095, 1097, 1099, 1101, 1104, 1105, 1106, 1107, 1108, 1109, 1110, 1111, 1112, 1113, 1114, 1115, 1116, 1117, 1118, 1120, 1121, 1122, 1123, 1124, 1125, 1126, 1127, 1128, 1129, 1130, 1131, 1132, 1133, 1134, 1135, 1136, 1137, 1138, 1139, 1140, 1141, 1142, 1143, 1144, 1145, 1146, 1148, 1149, 1150, 1152, 1153, 1154, 1155, 1156, 1157, 1158, 1159, 1160, 1161, 1163, 1164, 1165, 1166] (by decide +kernel)
theorem bgg_14 : BG_14.all goodWord = true := by decide +kernel
def BG_15 : List Cond := [.instanceMethod ⟨"SeamPullModel", "must", "(Z)V"⟩, .code ⟨"SeamPullModel", "must", "(Z)V"⟩ prog_11_method_16_code 2 (none : Option Jvm.ClassFile.FieldType), .methodLink "SeamPullModel" 135 ⟨"SeamPullModel", "bad", "(I)V"⟩, .instanceMethod ⟨"SeamPullModel", "bad", "(I)V"⟩, .code ⟨"SeamPullModel", "bad", "(I)V"⟩ prog_11_method_15_code 2 (none : Option Jvm.ClassFile.FieldType), .methodLink "SeamPullModel" 173 ⟨"SeamPullModel", "numberIn", "(III)I"⟩, .instanceMethod ⟨"SeamPullModel", "numberIn", "(III)I"⟩, .code ⟨"SeamPullModel", "numberIn", "(III)I"⟩ prog_11_method_18_code 6 (some .int), .methodLink "SeamPullModel" 190 ⟨"SeamPullModel", "mustEnd", "()V"⟩, .instanceMethod ⟨"SeamPullModel", "mustEnd", "()V"⟩, .code ⟨"SeamPullModel", "mustEnd", "()V"⟩ prog_11_method_20_code 1 (none : Option Jvm.ClassFile.FieldType), .constantLong "SeamPullModel" 200 (1936023917), .methodLink "SeamPullModel" 202 ⟨"SeamPullModel", "readSeam", "()V"⟩, .instanceMethod ⟨"SeamPullModel", "readSeam", "()V"⟩, .code ⟨"SeamPullModel", "readSeam", "()V"⟩ prog_11_method_22_code 2 (none : Option Jvm.ClassFile.FieldType), .methodLink "SeamPullModel" 183 ⟨"SeamPullModel", "kindOfWord", "()I"⟩, .instanceMethod ⟨"SeamPullModel", "kindOfWord", "()I"⟩, .code ⟨"SeamPullModel", "kindOfWord", "()I"⟩ prog_11_method_19_code 3 (some .int), .constantLong "SeamPullModel" 150 (1952539499), .constantLong "SeamPullModel" 152 (28526), .constantLong "SeamPullModel" 154 (1650549611), .constantLong "SeamPullModel" 156 (1936419184), .constantLong "SeamPullModel" 158 (126879297138276), .constantLong "SeamPullModel" 160 (128047779833188), .constantLong "SeamPullModel" 162 (439904988517), .constantLong "SeamPullModel" 164 (2002872692), .constantLong "SeamPullModel" 166 (427020086640), .constantLong "SeamPullModel" 168 (1718773093), .methodLink "SeamPullModel" 187 ⟨"SeamPullModel", "readAct", "(I)V"⟩, .instanceMethod ⟨"SeamPullModel", "readAct", "(I)V"⟩, .code ⟨"SeamPullModel", "readAct", "(I)V"⟩ prog_11_method_21_code 4 (none : Option Jvm.ClassFile.FieldType), .constantLong "SeamPullModel" 196 (108187649798757), .methodLink "SeamPullModel" 205 ⟨"SeamPullModel", "readBefore", "()V"⟩, .instanceMethod ⟨"SeamPullModel", "readBefore", "()V"⟩, .code ⟨"SeamPullModel", "readBefore", "()V"⟩ prog_11_method_23_code 3 (none : Option Jvm.ClassFile.FieldType), .constant "SeamPullModel" 211 (-1000100), .methodLink "SeamPullLaw" 47 ⟨"SeamPullModel", "fault", "()I"⟩, .instanceMethod ⟨"SeamPullModel", "fault", "()I"⟩, .selects "SeamPullModel" ⟨"SeamPullModel", "fault", "()I"⟩ ⟨"SeamPullModel", "fault", "()I"⟩, .code ⟨"SeamPullModel", "fault", "()I"⟩ prog_11_method_25_code 1 (some .int), .methodLink "SeamPullLaw" 52 ⟨"SeamPullModel", "act", "(II)I"⟩, .instanceMethod ⟨"SeamPullModel", "act", "(II)I"⟩, .selects "SeamPullModel" ⟨"SeamPullModel", "act", "(II)I"⟩ ⟨"SeamPullModel", "act", "(II)I"⟩, .code ⟨"SeamPullModel", "act", "(II)I"⟩ prog_11_method_28_code 3 (some .int), .methodLink "SeamPullModel" 228 ⟨"SeamPullModel", "isAct", "(I)Z"⟩, .instanceMethod ⟨"SeamPullModel", "isAct", "(I)Z"⟩, .code ⟨"SeamPullModel", "isAct", "(I)Z"⟩ prog_11_method_26_code 2 (some .boolean), .constantLong "SeamPullModel" 231 (3), .methodLink "SeamPullLaw" 56 ⟨"SeamPullModel", "open", "(II)I"⟩, .instanceMethod ⟨"SeamPullModel", "open", "(II)I"⟩, .selects "SeamPullModel" ⟨"SeamPullModel", "open", "(II)I"⟩ ⟨"SeamPullModel", "open", "(II)I"⟩, .code ⟨"SeamPullModel", "open", "(II)I"⟩ prog_11_method_29_code 4 (some .int), .methodLink "SeamPullModel" 233 ⟨"SeamPullModel", "isCell", "(I)Z"⟩, .instanceMethod ⟨"SeamPullModel", "isCell", "(I)Z"⟩, .code ⟨"SeamPullModel", "isCell", "(I)Z"⟩ prog_11_method_27_code 2 (some .boolean), .constantLong "SeamPullModel" 236 (-40), .constantLong "SeamPullModel" 238 (40), .methodLink "SeamPullLaw" 60 ⟨"SeamPullModel", "run", "(II)I"⟩, .instanceMethod ⟨"SeamPullModel", "run", "(II)I"⟩, .selects "SeamPullModel" ⟨"SeamPullModel", "run", "(II)I"⟩ ⟨"SeamPullModel", "run", "(II)I"⟩, .code ⟨"SeamPullModel", "run", "(II)I"⟩ prog_11_method_41_code 6 (some .int), .constant "SeamPullModel" 273 (-1000002), .methodLink "SeamPullModel" 274 ⟨"SeamPullModel", "layOpened", "()V"⟩, .instanceMethod ⟨"SeamPullModel", "layOpened", "()V"⟩]
set_option maxRecDepth 100000 in
theorem bgt_15 : ∀ w ∈ BG_15, w ∈ lw_tbl := bg_in [1168, 1169, 1170, 1172, 1173, 1174, 1176, 1177, 1178, 1180, 1181, 1182, 1183, 1185, 1186, 1187, 1189, 1190, 1191, 1192, 1193, 1194, 1195, 1196, 1197, 1198, 1199, 1200, 1201, 1203, 1204, 1205, 1206, 1208, 1209, 1210, 1211, 1212, 1213, 1214, 1215, 1216, 1217, 1218, 1219, 1221, 1222, 1223, 1224, 1225, 1226, 1227, 1228, 1230, 1231, 1232, 1233, 1234, 1235, 1236, 1237, 1238, 1239, 1241] (by decide +kernel)
theorem bgg_15 : BG_15.all goodWord = true := by decide +kernel
def BG_16 : List Cond := [.code ⟨"SeamPullModel", "layOpened", "()V"⟩ prog_11_method_39_code 2 (none : Option Jvm.ClassFile.FieldType), .methodLink "SeamPullModel" 277 ⟨"SeamPullModel", "go", "(I)V"⟩, .instanceMethod ⟨"SeamPullModel", "go", "(I)V"⟩, .code ⟨"SeamPullModel", "go", "(I)V"⟩ prog_11_method_36_code 4 (none : Option Jvm.ClassFile.FieldType), .constantLong "SeamPullModel" 259 (24), .constantLong "SeamPullModel" 261 (35), .methodLink "SeamPullModel" 263 ⟨"SeamPullModel", "doAct", "(I)V"⟩, .instanceMethod ⟨"SeamPullModel", "doAct", "(I)V"⟩, .code ⟨"SeamPullModel", "doAct", "(I)V"⟩ prog_11_method_35_code 5 (none : Option Jvm.ClassFile.FieldType), .methodLink "SeamPullModel" 249 ⟨"SeamPullModel", "minute", "()V"⟩, .instanceMethod ⟨"SeamPullModel", "minute", "()V"⟩, .code ⟨"SeamPullModel", "minute", "()V"⟩ prog_11_method_30_code 2 (none : Option Jvm.ClassFile.FieldType), .methodLink "SeamPullModel" 252 ⟨"SeamPullModel", "free", "(I)V"⟩, .instanceMethod ⟨"SeamPullModel", "free", "(I)V"⟩, .code ⟨"SeamPullModel", "free", "(I)V"⟩ prog_11_method_34_code 2 (none : Option Jvm.ClassFile.FieldType), .methodLink "SeamPullModel" 255 ⟨"SeamPullModel", "step", "(III)V"⟩, .instanceMethod ⟨"SeamPullModel", "step", "(III)V"⟩, .code ⟨"SeamPullModel", "step", "(III)V"⟩ prog_11_method_33_code 6 (none : Option Jvm.ClassFile.FieldType), .methodLink "SeamPullModel" 246 ⟨"SeamPullModel", "shrinks", "(III)I"⟩, .instanceMethod ⟨"SeamPullModel", "shrinks", "(III)I"⟩, .code ⟨"SeamPullModel", "shrinks", "(III)I"⟩ prog_11_method_32_code 5 (some .int), .methodLink "SeamPullModel" 243 ⟨"SeamPullModel", "holds", "(I)Z"⟩, .instanceMethod ⟨"SeamPullModel", "holds", "(I)Z"⟩, .code ⟨"SeamPullModel", "holds", "(I)Z"⟩ prog_11_method_31_code 2 (some .boolean), .methodLink "SeamPullModel" 280 ⟨"SeamPullModel", "stand", "()V"⟩, .instanceMethod ⟨"SeamPullModel", "stand", "()V"⟩, .code ⟨"SeamPullModel", "stand", "()V"⟩ prog_11_method_40_code 2 (none : Option Jvm.ClassFile.FieldType), .methodLink "SeamPullModel" 283 ⟨"SeamPullModel", "offBy", "()I"⟩, .instanceMethod ⟨"SeamPullModel", "offBy", "()I"⟩, .code ⟨"SeamPullModel", "offBy", "()I"⟩ prog_11_method_38_code 5 (some .int), .methodLink "SeamPullModel" 266 ⟨"SeamPullModel", "heightBy", "([II)I"⟩, .instanceMethod ⟨"SeamPullModel", "heightBy", "([II)I"⟩, .code ⟨"SeamPullModel", "heightBy", "([II)I"⟩ prog_11_method_37_code 6 (some .int), .methodLink "SeamPullLaw" 64 ⟨"SeamPullModel", "runs", "()I"⟩, .instanceMethod ⟨"SeamPullModel", "runs", "()I"⟩, .selects "SeamPullModel" ⟨"SeamPullModel", "runs", "()I"⟩ ⟨"SeamPullModel", "runs", "()I"⟩, .code ⟨"SeamPullModel", "runs", "()I"⟩ prog_11_method_43_code 1 (some .int), .methodLink "SeamPullModel" 286 ⟨"SeamPullModel", "layNumbers", "()V"⟩, .instanceMethod ⟨"SeamPullModel", "layNumbers", "()V"⟩, .code ⟨"SeamPullModel", "layNumbers", "()V"⟩ prog_11_method_42_code 2 (none : Option Jvm.ClassFile.FieldType), .methodLink "SeamPullLaw" 68 ⟨"SeamPullModel", "cell", "(II)I"⟩, .instanceMethod ⟨"SeamPullModel", "cell", "(II)I"⟩, .selects "SeamPullModel" ⟨"SeamPullModel", "cell", "(II)I"⟩ ⟨"SeamPullModel", "cell", "(II)I"⟩, .code ⟨"SeamPullModel", "cell", "(II)I"⟩ prog_11_method_45_code 3 (some .int), .methodLink "SeamPullModel" 289 ⟨"SeamPullModel", "layStanding", "()V"⟩, .instanceMethod ⟨"SeamPullModel", "layStanding", "()V"⟩, .code ⟨"SeamPullModel", "layStanding", "()V"⟩ prog_11_method_44_code 2 (none : Option Jvm.ClassFile.FieldType), .methodLink "SeamPullLaw" 72 ⟨"SeamPullModel", "height", "(I)I"⟩, .instanceMethod ⟨"SeamPullModel", "height", "(I)I"⟩, .selects "SeamPullModel" ⟨"SeamPullModel", "height", "(I)I"⟩ ⟨"SeamPullModel", "height", "(I)I"⟩, .code ⟨"SeamPullModel", "height", "(I)I"⟩ prog_11_method_46_code 2 (some .int), .methodLink "SeamPullLaw" 76 ⟨"SeamPullModel", "minutes", "()I"⟩, .instanceMethod ⟨"SeamPullModel", "minutes", "()I"⟩, .selects "SeamPullModel" ⟨"SeamPullModel", "minutes", "()I"⟩ ⟨"SeamPullModel", "minutes", "()I"⟩, .code ⟨"SeamPullModel", "minutes", "()I"⟩ prog_11_method_47_code 1 (some .int), .methodLink "SeamPullLaw" 80 ⟨"SeamPullModel", "gives", "(I)I"⟩, .instanceMethod ⟨"SeamPullModel", "gives", "(I)I"⟩, .selects "SeamPullModel" ⟨"SeamPullModel", "gives", "(I)I"⟩ ⟨"SeamPullModel", "gives", "(I)I"⟩, .code ⟨"SeamPullModel", "gives", "(I)I"⟩ prog_11_method_48_code 3 (some .int), .methodLink "SeamPullLaw" 84 ⟨"SeamPullModel", "best", "(I)I"⟩, .instanceMethod ⟨"SeamPullModel", "best", "(I)I"⟩, .selects "SeamPullModel" ⟨"SeamPullModel", "best", "(I)I"⟩ ⟨"SeamPullModel", "best", "(I)I"⟩, .code ⟨"SeamPullModel", "best", "(I)I"⟩ prog_11_method_51_code 6 (some .int), .methodLink "SeamPullModel" 292 ⟨"SeamPullModel", "fits", "()Z"⟩]
set_option maxRecDepth 100000 in
theorem bgt_16 : ∀ w ∈ BG_16, w ∈ lw_tbl := bg_in [1242, 1243, 1245, 1246, 1247, 1248, 1249, 1251, 1252, 1253, 1255, 1256, 1257, 1259, 1260, 1261, 1263, 1264, 1265, 1267, 1268, 1269, 1271, 1272, 1273, 1275, 1276, 1277, 1279, 1280, 1281, 1283, 1284, 1285, 1286, 1287, 1288, 1289, 1291, 1292, 1293, 1294, 1295, 1296, 1297, 1299, 1300, 1301, 1302, 1303, 1304, 1305, 1306, 1307, 1308, 1309, 1310, 1311, 1312, 1313, 1314, 1315, 1316, 1317] (by decide +kernel)
theorem bgg_16 : BG_16.all goodWord = true := by decide +kernel
def BG_17 : List Cond := [.instanceMethod ⟨"SeamPullModel", "fits", "()Z"⟩, .code ⟨"SeamPullModel", "fits", "()Z"⟩ prog_11_method_49_code 6 (some .boolean), .methodLink "SeamPullModel" 296 ⟨"SeamPullModel", "nextOrder", "()Z"⟩, .instanceMethod ⟨"SeamPullModel", "nextOrder", "()Z"⟩, .code ⟨"SeamPullModel", "nextOrder", "()Z"⟩ prog_11_method_50_code 6 (some .boolean), .methodLink "SeamPullLaw" 88 ⟨"SeamPullModel", "orders", "()I"⟩, .instanceMethod ⟨"SeamPullModel", "orders", "()I"⟩, .selects "SeamPullModel" ⟨"SeamPullModel", "orders", "()I"⟩ ⟨"SeamPullModel", "orders", "()I"⟩, .code ⟨"SeamPullModel", "orders", "()I"⟩ prog_11_method_52_code 3 (some .int), .methodLink "SeamPullLaw" 92 ⟨"SeamPullModel", "beforehand", "(I)I"⟩, .instanceMethod ⟨"SeamPullModel", "beforehand", "(I)I"⟩, .selects "SeamPullModel" ⟨"SeamPullModel", "beforehand", "(I)I"⟩ ⟨"SeamPullModel", "beforehand", "(I)I"⟩, .code ⟨"SeamPullModel", "beforehand", "(I)I"⟩ prog_11_method_54_code 4 (some .int), .methodLink "SeamPullModel" 299 ⟨"SeamPullModel", "setBy", "(I)I"⟩, .instanceMethod ⟨"SeamPullModel", "setBy", "(I)I"⟩, .code ⟨"SeamPullModel", "setBy", "(I)I"⟩ prog_11_method_53_code 4 (some .int), .methodLink "SeamPullLaw" 96 ⟨"SeamPullModel", "spots", "(II)I"⟩, .instanceMethod ⟨"SeamPullModel", "spots", "(II)I"⟩, .selects "SeamPullModel" ⟨"SeamPullModel", "spots", "(II)I"⟩ ⟨"SeamPullModel", "spots", "(II)I"⟩, .code ⟨"SeamPullModel", "spots", "(II)I"⟩ prog_11_method_56_code 8 (some .int), .constantLong "SeamPullModel" 302 (20), .methodLink "SeamPullModel" 304 ⟨"SeamPullModel", "flame", "(II)V"⟩, .instanceMethod ⟨"SeamPullModel", "flame", "(II)V"⟩, .code ⟨"SeamPullModel", "flame", "(II)V"⟩ prog_11_method_55_code 4 (none : Option Jvm.ClassFile.FieldType), .methodLink "SeamPullLaw" 100 ⟨"SeamPullModel", "crack", "(I)I"⟩, .instanceMethod ⟨"SeamPullModel", "crack", "(I)I"⟩, .selects "SeamPullModel" ⟨"SeamPullModel", "crack", "(I)I"⟩ ⟨"SeamPullModel", "crack", "(I)I"⟩, .code ⟨"SeamPullModel", "crack", "(I)I"⟩ prog_11_method_58_code 2 (some .int), .constantLong "SeamPullModel" 308 (60), .methodLink "SeamPullModel" 310 ⟨"SeamPullModel", "crackAt", "(I)I"⟩, .instanceMethod ⟨"SeamPullModel", "crackAt", "(I)I"⟩, .code ⟨"SeamPullModel", "crackAt", "(I)I"⟩ prog_11_method_57_code 3 (some .int), .methodLink "SeamPullLaw" 104 ⟨"SeamPullModel", "warm", "()I"⟩, .instanceMethod ⟨"SeamPullModel", "warm", "()I"⟩, .selects "SeamPullModel" ⟨"SeamPullModel", "warm", "()I"⟩ ⟨"SeamPullModel", "warm", "()I"⟩, .code ⟨"SeamPullModel", "warm", "()I"⟩ prog_11_method_59_code 2 (some .int), .methodLink "SeamPullLaw" 108 ⟨"SeamPullModel", "wire", "(III)I"⟩, .instanceMethod ⟨"SeamPullModel", "wire", "(III)I"⟩, .selects "SeamPullModel" ⟨"SeamPullModel", "wire", "(III)I"⟩ ⟨"SeamPullModel", "wire", "(III)I"⟩, .code ⟨"SeamPullModel", "wire", "(III)I"⟩ prog_11_method_61_code 8 (some .int), .constantLong "SeamPullModel" 313 (-1), .constantLong "SeamPullModel" 315 (-9999), .constantLong "SeamPullModel" 317 (9999), .methodLink "SeamPullModel" 319 ⟨"SeamPullModel", "bendBy", "(II)I"⟩, .instanceMethod ⟨"SeamPullModel", "bendBy", "(II)I"⟩, .code ⟨"SeamPullModel", "bendBy", "(II)I"⟩ prog_11_method_60_code 4 (some .int), .methodLink "SeamPullLaw" 112 ⟨"SeamPullModel", "kind", "(I)I"⟩, .instanceMethod ⟨"SeamPullModel", "kind", "(I)I"⟩, .selects "SeamPullModel" ⟨"SeamPullModel", "kind", "(I)I"⟩ ⟨"SeamPullModel", "kind", "(I)I"⟩, .code ⟨"SeamPullModel", "kind", "(I)I"⟩ prog_11_method_64_code 2 (some .int), .methodLink "SeamPullModel" 325 ⟨"SeamPullModel", "isStep", "(I)Z"⟩, .instanceMethod ⟨"SeamPullModel", "isStep", "(I)Z"⟩, .code ⟨"SeamPullModel", "isStep", "(I)Z"⟩ prog_11_method_62_code 2 (some .boolean), .methodLink "SeamPullLaw" 116 ⟨"SeamPullModel", "as", "(II)I"⟩, .instanceMethod ⟨"SeamPullModel", "as", "(II)I"⟩, .selects "SeamPullModel" ⟨"SeamPullModel", "as", "(II)I"⟩ ⟨"SeamPullModel", "as", "(II)I"⟩, .code ⟨"SeamPullModel", "as", "(II)I"⟩ prog_11_method_65_code 3 (some .int), .methodLink "SeamPullModel" 328 ⟨"SeamPullModel", "isOf", "(II)Z"⟩, .static ⟨"SeamPullModel", "isOf", "(II)Z"⟩, .code ⟨"SeamPullModel", "isOf", "(II)Z"⟩ prog_11_method_63_code 2 (some .boolean), .constantLong "SeamPullModel" 323 (6), .methodLink "SeamPullLaw" 120 ⟨"SeamPullModel", "ask", "(II)I"⟩, .instanceMethod ⟨"SeamPullModel", "ask", "(II)I"⟩, .selects "SeamPullModel" ⟨"SeamPullModel", "ask", "(II)I"⟩ ⟨"SeamPullModel", "ask", "(II)I"⟩]
set_option maxRecDepth 100000 in
theorem bgt_17 : ∀ w ∈ BG_17, w ∈ lw_tbl := bg_in [1319, 1320, 1321, 1323, 1324, 1325, 1326, 1327, 1328, 1329, 1330, 1331, 1332, 1333, 1335, 1336, 1337, 1338, 1339, 1340, 1341, 1342, 1344, 1345, 1346, 1347, 1348, 1349, 1350, 1351, 1353, 1354, 1355, 1356, 1357, 1358, 1359, 1360, 1361, 1362, 1363, 1364, 1365, 1366, 1368, 1369, 1370, 1371, 1372, 1373, 1374, 1376, 1377, 1378, 1379, 1380, 1381, 1382, 1383, 1384, 1385, 1386, 1387, 1388] (by decide +kernel)
theorem bgg_17 : BG_17.all goodWord = true := by decide +kernel
def BG_18 : List Cond := [.code ⟨"SeamPullModel", "ask", "(II)I"⟩ prog_11_method_70_code 3 (some .int), .methodLink "SeamPullModel" 344 ⟨"SeamPullModel", "sizeOf", "(II)I"⟩, .instanceMethod ⟨"SeamPullModel", "sizeOf", "(II)I"⟩, .code ⟨"SeamPullModel", "sizeOf", "(II)I"⟩ prog_11_method_69_code 5 (some .int), .methodLink "SeamPullModel" 338 ⟨"SeamPullModel", "flameSize", "(I)I"⟩, .instanceMethod ⟨"SeamPullModel", "flameSize", "(I)I"⟩, .code ⟨"SeamPullModel", "flameSize", "(I)I"⟩ prog_11_method_67_code 2 (some .int), .methodLink "SeamPullModel" 335 ⟨"SeamPullModel", "began", "(I)V"⟩, .instanceMethod ⟨"SeamPullModel", "began", "(I)V"⟩, .code ⟨"SeamPullModel", "began", "(I)V"⟩ prog_11_method_66_code 2 (none : Option Jvm.ClassFile.FieldType), .methodLink "SeamPullModel" 341 ⟨"SeamPullModel", "markOf", "(II)I"⟩, .instanceMethod ⟨"SeamPullModel", "markOf", "(II)I"⟩, .code ⟨"SeamPullModel", "markOf", "(II)I"⟩ prog_11_method_68_code 3 (some .int), .methodLink "SeamPullLaw" 124 ⟨"SeamPullModel", "trace", "(I)I"⟩, .instanceMethod ⟨"SeamPullModel", "trace", "(I)I"⟩, .selects "SeamPullModel" ⟨"SeamPullModel", "trace", "(I)I"⟩ ⟨"SeamPullModel", "trace", "(I)I"⟩, .code ⟨"SeamPullModel", "trace", "(I)I"⟩ prog_11_method_71_code 2 (some .int), .methodLink "SeamPullLaw" 128 ⟨"SeamPullModel", "count", "(I)I"⟩, .instanceMethod ⟨"SeamPullModel", "count", "(I)I"⟩, .selects "SeamPullModel" ⟨"SeamPullModel", "count", "(I)I"⟩ ⟨"SeamPullModel", "count", "(I)I"⟩, .code ⟨"SeamPullModel", "count", "(I)I"⟩ prog_11_method_72_code 4 (some .int), .methodLink "SeamPullLaw" 132 ⟨"SeamPullModel", "status", "()I"⟩, .instanceMethod ⟨"SeamPullModel", "status", "()I"⟩, .selects "SeamPullModel" ⟨"SeamPullModel", "status", "()I"⟩ ⟨"SeamPullModel", "status", "()I"⟩, .code ⟨"SeamPullModel", "status", "()I"⟩ prog_11_method_73_code 1 (some .int), .constantLong "SeamPullLaw" 32 (4294967295), .fieldLink "java/lang/String" 9 "java/lang/String" "value" "[B", .fieldLink "java/lang/String" 15 "java/lang/String" "coder" "B"]
set_option maxRecDepth 100000 in
theorem bgt_18 : ∀ w ∈ BG_18, w ∈ lw_tbl := bg_in [1389, 1390, 1392, 1393, 1394, 1396, 1397, 1398, 1400, 1401, 1402, 1404, 1405, 1406, 1407, 1408, 1409, 1410, 1411, 1412, 1413, 1414, 1415, 1416, 1417, 1418, 1419, 1420] (by decide +kernel)
theorem bgg_18 : BG_18.all goodWord = true := by decide +kernel
def BG : List Cond := BG_0 ++ (BG_1 ++ (BG_2 ++ (BG_3 ++ (BG_4 ++ (BG_5 ++ (BG_6 ++ (BG_7 ++ (BG_8 ++ (BG_9 ++ (BG_10 ++ (BG_11 ++ (BG_12 ++ (BG_13 ++ (BG_14 ++ (BG_15 ++ (BG_16 ++ (BG_17 ++ (BG_18))))))))))))))))))
theorem bgi_0 {w : Cond} (h : w ∈ BG_0) : w ∈ BG := List.mem_append_left _ h
theorem w0 {w : Cond} (i : Nat) (h : BG_0[i]? = some w) : w ∈ BG := bgi_0 (List.mem_of_getElem? h)
theorem bgi_1 {w : Cond} (h : w ∈ BG_1) : w ∈ BG := List.mem_append_right _ (List.mem_append_left _ h)
theorem w1 {w : Cond} (i : Nat) (h : BG_1[i]? = some w) : w ∈ BG := bgi_1 (List.mem_of_getElem? h)
theorem bgi_2 {w : Cond} (h : w ∈ BG_2) : w ∈ BG := List.mem_append_right _ (List.mem_append_right _ (List.mem_append_left _ h))
theorem w2 {w : Cond} (i : Nat) (h : BG_2[i]? = some w) : w ∈ BG := bgi_2 (List.mem_of_getElem? h)
theorem bgi_3 {w : Cond} (h : w ∈ BG_3) : w ∈ BG := List.mem_append_right _ (List.mem_append_right _ (List.mem_append_right _ (List.mem_append_left _ h)))
theorem w3 {w : Cond} (i : Nat) (h : BG_3[i]? = some w) : w ∈ BG := bgi_3 (List.mem_of_getElem? h)
theorem bgi_4 {w : Cond} (h : w ∈ BG_4) : w ∈ BG := List.mem_append_right _ (List.mem_append_right _ (List.mem_append_right _ (List.mem_append_right _ (List.mem_append_left _ h))))
theorem w4 {w : Cond} (i : Nat) (h : BG_4[i]? = some w) : w ∈ BG := bgi_4 (List.mem_of_getElem? h)
theorem bgi_5 {w : Cond} (h : w ∈ BG_5) : w ∈ BG := List.mem_append_right _ (List.mem_append_right _ (List.mem_append_right _ (List.mem_append_right _ (List.mem_append_right _ (List.mem_append_left _ h)))))
theorem w5 {w : Cond} (i : Nat) (h : BG_5[i]? = some w) : w ∈ BG := bgi_5 (List.mem_of_getElem? h)
theorem bgi_6 {w : Cond} (h : w ∈ BG_6) : w ∈ BG := List.mem_append_right _ (List.mem_append_right _ (List.mem_append_right _ (List.mem_append_right _ (List.mem_append_right _ (List.mem_append_right _ (List.mem_append_left _ h))))))
theorem w6 {w : Cond} (i : Nat) (h : BG_6[i]? = some w) : w ∈ BG := bgi_6 (List.mem_of_getElem? h)
theorem bgi_7 {w : Cond} (h : w ∈ BG_7) : w ∈ BG := List.mem_append_right _ (List.mem_append_right _ (List.mem_append_right _ (List.mem_append_right _ (List.mem_append_right _ (List.mem_append_right _ (List.mem_append_right _ (List.mem_append_left _ h)))))))
theorem w7 {w : Cond} (i : Nat) (h : BG_7[i]? = some w) : w ∈ BG := bgi_7 (List.mem_of_getElem? h)
theorem bgi_8 {w : Cond} (h : w ∈ BG_8) : w ∈ BG := List.mem_append_right _ (List.mem_append_right _ (List.mem_append_right _ (List.mem_append_right _ (List.mem_append_right _ (List.mem_append_right _ (List.mem_append_right _ (List.mem_append_right _ (List.mem_append_left _ h))))))))
theorem w8 {w : Cond} (i : Nat) (h : BG_8[i]? = some w) : w ∈ BG := bgi_8 (List.mem_of_getElem? h)
theorem bgi_9 {w : Cond} (h : w ∈ BG_9) : w ∈ BG := List.mem_append_right _ (List.mem_append_right _ (List.mem_append_right _ (List.mem_append_right _ (List.mem_append_right _ (List.mem_append_right _ (List.mem_append_right _ (List.mem_append_right _ (List.mem_append_right _ (List.mem_append_left _ h)))))))))
theorem w9 {w : Cond} (i : Nat) (h : BG_9[i]? = some w) : w ∈ BG := bgi_9 (List.mem_of_getElem? h)
theorem bgi_10 {w : Cond} (h : w ∈ BG_10) : w ∈ BG := List.mem_append_right _ (List.mem_append_right _ (List.mem_append_right _ (List.mem_append_right _ (List.mem_append_right _ (List.mem_append_right _ (List.mem_append_right _ (List.mem_append_right _ (List.mem_append_right _ (List.mem_append_right _ (List.mem_append_left _ h))))))))))
theorem w10 {w : Cond} (i : Nat) (h : BG_10[i]? = some w) : w ∈ BG := bgi_10 (List.mem_of_getElem? h)
theorem bgi_11 {w : Cond} (h : w ∈ BG_11) : w ∈ BG := List.mem_append_right _ (List.mem_append_right _ (List.mem_append_right _ (List.mem_append_right _ (List.mem_append_right _ (List.mem_append_right _ (List.mem_append_right _ (List.mem_append_right _ (List.mem_append_right _ (List.mem_append_right _ (List.mem_append_right _ (List.mem_append_left _ h)))))))))))
theorem w11 {w : Cond} (i : Nat) (h : BG_11[i]? = some w) : w ∈ BG := bgi_11 (List.mem_of_getElem? h)
theorem bgi_12 {w : Cond} (h : w ∈ BG_12) : w ∈ BG := List.mem_append_right _ (List.mem_append_right _ (List.mem_append_right _ (List.mem_append_right _ (List.mem_append_right _ (List.mem_append_right _ (List.mem_append_right _ (List.mem_append_right _ (List.mem_append_right _ (List.mem_append_right _ (List.mem_append_right _ (List.mem_append_right _ (List.mem_append_left _ h))))))))))))
theorem w12 {w : Cond} (i : Nat) (h : BG_12[i]? = some w) : w ∈ BG := bgi_12 (List.mem_of_getElem? h)
theorem bgi_13 {w : Cond} (h : w ∈ BG_13) : w ∈ BG := List.mem_append_right _ (List.mem_append_right _ (List.mem_append_right _ (List.mem_append_right _ (List.mem_append_right _ (List.mem_append_right _ (List.mem_append_right _ (List.mem_append_right _ (List.mem_append_right _ (List.mem_append_right _ (List.mem_append_right _ (List.mem_append_right _ (List.mem_append_right _ (List.mem_append_left _ h)))))))))))))
theorem w13 {w : Cond} (i : Nat) (h : BG_13[i]? = some w) : w ∈ BG := bgi_13 (List.mem_of_getElem? h)
theorem bgi_14 {w : Cond} (h : w ∈ BG_14) : w ∈ BG := List.mem_append_right _ (List.mem_append_right _ (List.mem_append_right _ (List.mem_append_right _ (List.mem_append_right _ (List.mem_append_right _ (List.mem_append_right _ (List.mem_append_right _ (List.mem_append_right _ (List.mem_append_right _ (List.mem_append_right _ (List.mem_append_right _ (List.mem_append_right _ (List.mem_append_right _ (List.mem_append_left _ h))))))))))))))
theorem w14 {w : Cond} (i : Nat) (h : BG_14[i]? = some w) : w ∈ BG := bgi_14 (List.mem_of_getElem? h)
theorem bgi_15 {w : Cond} (h : w ∈ BG_15) : w ∈ BG := List.mem_append_right _ (List.mem_append_right _ (List.mem_append_right _ (List.mem_append_right _ (List.mem_append_right _ (List.mem_append_right _ (List.mem_append_right _ (List.mem_append_right _ (List.mem_append_right _ (List.mem_append_right _ (List.mem_append_right _ (List.mem_append_right _ (List.mem_append_right _ (List.mem_append_right _ (List.mem_append_right _ (List.mem_append_left _ h)))))))))))))))
theorem w15 {w : Cond} (i : Nat) (h : BG_15[i]? = some w) : w ∈ BG := bgi_15 (List.mem_of_getElem? h)
theorem bgi_16 {w : Cond} (h : w ∈ BG_16) : w ∈ BG := List.mem_append_right _ (List.mem_append_right _ (List.mem_append_right _ (List.mem_append_right _ (List.mem_append_right _ (List.mem_append_right _ (List.mem_append_right _ (List.mem_append_right _ (List.mem_append_right _ (List.mem_append_right _ (List.mem_append_right _ (List.mem_append_right _ (List.mem_append_right _ (List.mem_append_right _ (List.mem_append_right _ (List.mem_append_right _ (List.mem_append_left _ h))))))))))))))))
theorem w16 {w : Cond} (i : Nat) (h : BG_16[i]? = some w) : w ∈ BG := bgi_16 (List.mem_of_getElem? h)
theorem bgi_17 {w : Cond} (h : w ∈ BG_17) : w ∈ BG := List.mem_append_right _ (List.mem_append_right _ (List.mem_append_right _ (List.mem_append_right _ (List.mem_append_right _ (List.mem_append_right _ (List.mem_append_right _ (List.mem_append_right _ (List.mem_append_right _ (List.mem_append_right _ (List.mem_append_right _ (List.mem_append_right _ (List.mem_append_right _ (List.mem_append_right _ (List.mem_append_right _ (List.mem_append_right _ (List.mem_append_right _ (List.mem_append_left _ h)))))))))))))))))
theorem w17 {w : Cond} (i : Nat) (h : BG_17[i]? = some w) : w ∈ BG := bgi_17 (List.mem_of_getElem? h)
theorem bgi_18 {w : Cond} (h : w ∈ BG_18) : w ∈ BG := List.mem_append_right _ (List.mem_append_right _ (List.mem_append_right _ (List.mem_append_right _ (List.mem_append_right _ (List.mem_append_right _ (List.mem_append_right _ (List.mem_append_right _ (List.mem_append_right _ (List.mem_append_right _ (List.mem_append_right _ (List.mem_append_right _ (List.mem_append_right _ (List.mem_append_right _ (List.mem_append_right _ (List.mem_append_right _ (List.mem_append_right _ (List.mem_append_right _ (h))))))))))))))))))
theorem w18 {w : Cond} (i : Nat) (h : BG_18[i]? = some w) : w ∈ BG := bgi_18 (List.mem_of_getElem? h)
theorem bg_tbl : ∀ w ∈ BG, w ∈ lw_tbl := List.forall_mem_append.mpr ⟨bgt_0, List.forall_mem_append.mpr ⟨bgt_1, List.forall_mem_append.mpr ⟨bgt_2, List.forall_mem_append.mpr ⟨bgt_3, List.forall_mem_append.mpr ⟨bgt_4, List.forall_mem_append.mpr ⟨bgt_5, List.forall_mem_append.mpr ⟨bgt_6, List.forall_mem_append.mpr ⟨bgt_7, List.forall_mem_append.mpr ⟨bgt_8, List.forall_mem_append.mpr ⟨bgt_9, List.forall_mem_append.mpr ⟨bgt_10, List.forall_mem_append.mpr ⟨bgt_11, List.forall_mem_append.mpr ⟨bgt_12, List.forall_mem_append.mpr ⟨bgt_13, List.forall_mem_append.mpr ⟨bgt_14, List.forall_mem_append.mpr ⟨bgt_15, List.forall_mem_append.mpr ⟨bgt_16, List.forall_mem_append.mpr ⟨bgt_17, bgt_18⟩⟩⟩⟩⟩⟩⟩⟩⟩⟩⟩⟩⟩⟩⟩⟩⟩⟩
theorem bgh_0 : ∀ w ∈ BG_0, goodWord w = true := fun w h => List.all_eq_true.mp bgg_0 w h
theorem bgh_1 : ∀ w ∈ BG_1, goodWord w = true := fun w h => List.all_eq_true.mp bgg_1 w h
theorem bgh_2 : ∀ w ∈ BG_2, goodWord w = true := fun w h => List.all_eq_true.mp bgg_2 w h
theorem bgh_3 : ∀ w ∈ BG_3, goodWord w = true := fun w h => List.all_eq_true.mp bgg_3 w h
theorem bgh_4 : ∀ w ∈ BG_4, goodWord w = true := fun w h => List.all_eq_true.mp bgg_4 w h
theorem bgh_5 : ∀ w ∈ BG_5, goodWord w = true := fun w h => List.all_eq_true.mp bgg_5 w h
theorem bgh_6 : ∀ w ∈ BG_6, goodWord w = true := fun w h => List.all_eq_true.mp bgg_6 w h
theorem bgh_7 : ∀ w ∈ BG_7, goodWord w = true := fun w h => List.all_eq_true.mp bgg_7 w h
theorem bgh_8 : ∀ w ∈ BG_8, goodWord w = true := fun w h => List.all_eq_true.mp bgg_8 w h
theorem bgh_9 : ∀ w ∈ BG_9, goodWord w = true := fun w h => List.all_eq_true.mp bgg_9 w h
theorem bgh_10 : ∀ w ∈ BG_10, goodWord w = true := fun w h => List.all_eq_true.mp bgg_10 w h
theorem bgh_11 : ∀ w ∈ BG_11, goodWord w = true := fun w h => List.all_eq_true.mp bgg_11 w h
theorem bgh_12 : ∀ w ∈ BG_12, goodWord w = true := fun w h => List.all_eq_true.mp bgg_12 w h
theorem bgh_13 : ∀ w ∈ BG_13, goodWord w = true := fun w h => List.all_eq_true.mp bgg_13 w h
theorem bgh_14 : ∀ w ∈ BG_14, goodWord w = true := fun w h => List.all_eq_true.mp bgg_14 w h
theorem bgh_15 : ∀ w ∈ BG_15, goodWord w = true := fun w h => List.all_eq_true.mp bgg_15 w h
theorem bgh_16 : ∀ w ∈ BG_16, goodWord w = true := fun w h => List.all_eq_true.mp bgg_16 w h
theorem bgh_17 : ∀ w ∈ BG_17, goodWord w = true := fun w h => List.all_eq_true.mp bgg_17 w h
theorem bgh_18 : ∀ w ∈ BG_18, goodWord w = true := fun w h => List.all_eq_true.mp bgg_18 w h
theorem bg_good : ∀ w ∈ BG, goodWord w = true := List.forall_mem_append.mpr ⟨bgh_0, List.forall_mem_append.mpr ⟨bgh_1, List.forall_mem_append.mpr ⟨bgh_2, List.forall_mem_append.mpr ⟨bgh_3, List.forall_mem_append.mpr ⟨bgh_4, List.forall_mem_append.mpr ⟨bgh_5, List.forall_mem_append.mpr ⟨bgh_6, List.forall_mem_append.mpr ⟨bgh_7, List.forall_mem_append.mpr ⟨bgh_8, List.forall_mem_append.mpr ⟨bgh_9, List.forall_mem_append.mpr ⟨bgh_10, List.forall_mem_append.mpr ⟨bgh_11, List.forall_mem_append.mpr ⟨bgh_12, List.forall_mem_append.mpr ⟨bgh_13, List.forall_mem_append.mpr ⟨bgh_14, List.forall_mem_append.mpr ⟨bgh_15, List.forall_mem_append.mpr ⟨bgh_16, List.forall_mem_append.mpr ⟨bgh_17, bgh_18⟩⟩⟩⟩⟩⟩⟩⟩⟩⟩⟩⟩⟩⟩⟩⟩⟩⟩
theorem bg_in_self (y : MethodName) (c : ByteArray) (n : Nat) (r : Option FieldType) : ∀ w ∈ BG, w ∈ Cond.code y c n r :: BG := fun _ h => List.mem_cons_of_mem _ h
set_option maxRecDepth 100000 in
theorem inbX0 : ∀ w ∈ u_ws RX0 TX0 2, w ∈ BG := by
  have h : u_ws RX0 TX0 2 = [.laysFinal "SeamPull$Asks" "SeamPull$Asks" "begun" "[I", .lays "SeamPull$Asks" "SeamPull$Asks" "many" "I"] := by decide +kernel
  rw [h]
  exact List.forall_mem_cons.mpr ⟨w3 10 rfl, List.forall_mem_cons.mpr ⟨w3 11 rfl, fun _ h => absurd h List.not_mem_nil⟩⟩
set_option maxRecDepth 100000 in
theorem inbX1 : ∀ w ∈ u_ws RX1 TX1 3, w ∈ BG := by
  have h : u_ws RX1 TX1 3 = [.laysFinal "SeamPull$Beforehand" "SeamPull$Beforehand" "bends" "[I", .laysFinal "SeamPull$Beforehand" "SeamPull$Beforehand" "alike" "[I", .lays "SeamPull$Beforehand" "SeamPull$Beforehand" "known" "Z"] := by decide +kernel
  rw [h]
  exact List.forall_mem_cons.mpr ⟨w3 0 rfl, List.forall_mem_cons.mpr ⟨w3 1 rfl, List.forall_mem_cons.mpr ⟨w3 2 rfl, fun _ h => absurd h List.not_mem_nil⟩⟩⟩
set_option maxRecDepth 100000 in
theorem inbX2 : ∀ w ∈ u_ws RX2 TX2 10, w ∈ BG := by
  have h : u_ws RX2 TX2 10 = [.laysFinal "SeamPull$Panel" "SeamPull$Panel" "heat" "[I", .laysFinal "SeamPull$Panel" "SeamPull$Panel" "heatTime" "[I", .laysFinal "SeamPull$Panel" "SeamPull$Panel" "hold" "[I", .laysFinal "SeamPull$Panel" "SeamPull$Panel" "bend" "[I", .laysFinal "SeamPull$Panel" "SeamPull$Panel" "spring" "[I", .laysFinal "SeamPull$Panel" "SeamPull$Panel" "shrunk" "[I", .lays "SeamPull$Panel" "SeamPull$Panel" "clampBits" "I", .lays "SeamPull$Panel" "SeamPull$Panel" "cells" "I", .lays "SeamPull$Panel" "SeamPull$Panel" "minutes" "I", .lays "SeamPull$Panel" "SeamPull$Panel" "allShrunk" "I"] := by decide +kernel
  rw [h]
  exact List.forall_mem_cons.mpr ⟨w2 25 rfl, List.forall_mem_cons.mpr ⟨w2 26 rfl, List.forall_mem_cons.mpr ⟨w2 27 rfl, List.forall_mem_cons.mpr ⟨w2 28 rfl, List.forall_mem_cons.mpr ⟨w2 29 rfl, List.forall_mem_cons.mpr ⟨w2 30 rfl, List.forall_mem_cons.mpr ⟨w2 31 rfl, List.forall_mem_cons.mpr ⟨w2 32 rfl, List.forall_mem_cons.mpr ⟨w2 33 rfl, List.forall_mem_cons.mpr ⟨w2 34 rfl, fun _ h => absurd h List.not_mem_nil⟩⟩⟩⟩⟩⟩⟩⟩⟩⟩
set_option maxRecDepth 100000 in
theorem inbX3 : ∀ w ∈ u_ws RX3 TX3 10, w ∈ BG := by
  have h : u_ws RX3 TX3 10 = [.lays "SeamPull$Plan" "SeamPull$Plan" "cells" "I", .lays "SeamPull$Plan" "SeamPull$Plan" "seams" "I", .lays "SeamPull$Plan" "SeamPull$Plan" "acts" "I", .lays "SeamPull$Plan" "SeamPull$Plan" "befores" "I", .laysFinal "SeamPull$Plan" "SeamPull$Plan" "actKind" "[I", .laysFinal "SeamPull$Plan" "SeamPull$Plan" "actPlace" "[I", .laysFinal "SeamPull$Plan" "SeamPull$Plan" "actStrength" "[I", .laysFinal "SeamPull$Plan" "SeamPull$Plan" "actSeam" "[I", .laysFinal "SeamPull$Plan" "SeamPull$Plan" "seamEnd" "[I", .laysFinal "SeamPull$Plan" "SeamPull$Plan" "needs" "[I"] := by decide +kernel
  rw [h]
  exact List.forall_mem_cons.mpr ⟨w3 27 rfl, List.forall_mem_cons.mpr ⟨w3 28 rfl, List.forall_mem_cons.mpr ⟨w3 29 rfl, List.forall_mem_cons.mpr ⟨w3 30 rfl, List.forall_mem_cons.mpr ⟨w3 31 rfl, List.forall_mem_cons.mpr ⟨w3 32 rfl, List.forall_mem_cons.mpr ⟨w3 33 rfl, List.forall_mem_cons.mpr ⟨w3 34 rfl, List.forall_mem_cons.mpr ⟨w3 35 rfl, List.forall_mem_cons.mpr ⟨w3 36 rfl, fun _ h => absurd h List.not_mem_nil⟩⟩⟩⟩⟩⟩⟩⟩⟩⟩
set_option maxRecDepth 100000 in
theorem inbX4 : ∀ w ∈ u_ws RX4 TX4 2, w ∈ BG := by
  have h : u_ws RX4 TX4 2 = [.laysFinal "SeamPull$Reader" "SeamPull$Reader" "tape" "LSeamPull$Tape;", .lays "SeamPull$Reader" "SeamPull$Reader" "taken" "I"] := by decide +kernel
  rw [h]
  exact List.forall_mem_cons.mpr ⟨w2 8 rfl, List.forall_mem_cons.mpr ⟨w2 9 rfl, fun _ h => absurd h List.not_mem_nil⟩⟩
set_option maxRecDepth 100000 in
theorem inbX5 : ∀ w ∈ u_ws RX5 TX5 7, w ∈ BG := by
  have h : u_ws RX5 TX5 7 = [.laysFinal "SeamPull$Search" "SeamPull$Search" "panels" "[LSeamPull$Panel;", .laysFinal "SeamPull$Search" "SeamPull$Search" "tried" "[I", .laysFinal "SeamPull$Search" "SeamPull$Search" "nearest" "[I", .laysFinal "SeamPull$Search" "SeamPull$Search" "ways" "[I", .lays "SeamPull$Search" "SeamPull$Search" "known" "Z", .lays "SeamPull$Search" "SeamPull$Search" "fits" "Z", .lays "SeamPull$Search" "SeamPull$Search" "leastOff" "I"] := by decide +kernel
  rw [h]
  exact List.forall_mem_cons.mpr ⟨w2 49 rfl, List.forall_mem_cons.mpr ⟨w2 50 rfl, List.forall_mem_cons.mpr ⟨w2 51 rfl, List.forall_mem_cons.mpr ⟨w2 52 rfl, List.forall_mem_cons.mpr ⟨w2 53 rfl, List.forall_mem_cons.mpr ⟨w2 54 rfl, List.forall_mem_cons.mpr ⟨w2 55 rfl, fun _ h => absurd h List.not_mem_nil⟩⟩⟩⟩⟩⟩⟩
set_option maxRecDepth 100000 in
theorem inbX6 : ∀ w ∈ u_ws RX6 TX6 3, w ∈ BG := by
  have h : u_ws RX6 TX6 3 = [.laysFinal "SeamPull$Shelf" "SeamPull$Shelf" "lanes" "[I", .laysFinal "SeamPull$Shelf" "SeamPull$Shelf" "sizes" "[I", .laysFinal "SeamPull$Shelf" "SeamPull$Shelf" "items" "[[I"] := by decide +kernel
  rw [h]
  exact List.forall_mem_cons.mpr ⟨w1 44 rfl, List.forall_mem_cons.mpr ⟨w1 45 rfl, List.forall_mem_cons.mpr ⟨w1 46 rfl, fun _ h => absurd h List.not_mem_nil⟩⟩⟩
set_option maxRecDepth 100000 in
theorem inbX7 : ∀ w ∈ u_ws RX7 TX7 5, w ∈ BG := by
  have h : u_ws RX7 TX7 5 = [.laysFinal "SeamPull$Tape" "SeamPull$Tape" "bytes" "[B", .lays "SeamPull$Tape" "SeamPull$Tape" "size" "I", .lays "SeamPull$Tape" "SeamPull$Tape" "start" "I", .lays "SeamPull$Tape" "SeamPull$Tape" "end" "I", .lays "SeamPull$Tape" "SeamPull$Tape" "sort" "I"] := by decide +kernel
  rw [h]
  exact List.forall_mem_cons.mpr ⟨w1 58 rfl, List.forall_mem_cons.mpr ⟨w1 59 rfl, List.forall_mem_cons.mpr ⟨w1 60 rfl, List.forall_mem_cons.mpr ⟨w1 61 rfl, List.forall_mem_cons.mpr ⟨w1 62 rfl, fun _ h => absurd h List.not_mem_nil⟩⟩⟩⟩⟩
set_option maxRecDepth 100000 in
theorem inbX8 : ∀ w ∈ u_ws RX8 TX8 16, w ∈ BG := by
  have h : u_ws RX8 TX8 16 = [.laysFinal "SeamPull" "SeamPull" "shelf" "LSeamPull$Shelf;", .laysFinal "SeamPull" "SeamPull" "tape" "LSeamPull$Tape;", .laysFinal "SeamPull" "SeamPull" "reader" "LSeamPull$Reader;", .laysFinal "SeamPull" "SeamPull" "setTo" "[I", .laysFinal "SeamPull" "SeamPull" "order" "[I", .laysFinal "SeamPull" "SeamPull" "row" "[I", .laysFinal "SeamPull" "SeamPull" "latest" "LSeamPull$Panel;", .laysFinal "SeamPull" "SeamPull" "trial" "LSeamPull$Panel;", .laysFinal "SeamPull" "SeamPull" "search" "LSeamPull$Search;", .laysFinal "SeamPull" "SeamPull" "ahead" "LSeamPull$Beforehand;", .laysFinal "SeamPull" "SeamPull" "asks" "LSeamPull$Asks;", .lays "SeamPull" "SeamPull" "plan" "LSeamPull$Plan;", .lays "SeamPull" "SeamPull" "draft" "LSeamPull$Plan;", .lays "SeamPull" "SeamPull" "ran" "Z", .lays "SeamPull" "SeamPull" "latestFault" "I", .lays "SeamPull" "SeamPull" "latestFinding" "I"] := by decide +kernel
  rw [h]
  exact List.forall_mem_cons.mpr ⟨w3 53 rfl, List.forall_mem_cons.mpr ⟨w3 54 rfl, List.forall_mem_cons.mpr ⟨w3 55 rfl, List.forall_mem_cons.mpr ⟨w3 56 rfl, List.forall_mem_cons.mpr ⟨w3 57 rfl, List.forall_mem_cons.mpr ⟨w3 58 rfl, List.forall_mem_cons.mpr ⟨w3 59 rfl, List.forall_mem_cons.mpr ⟨w3 60 rfl, List.forall_mem_cons.mpr ⟨w3 61 rfl, List.forall_mem_cons.mpr ⟨w3 62 rfl, List.forall_mem_cons.mpr ⟨w3 63 rfl, List.forall_mem_cons.mpr ⟨w4 0 rfl, List.forall_mem_cons.mpr ⟨w4 1 rfl, List.forall_mem_cons.mpr ⟨w4 2 rfl, List.forall_mem_cons.mpr ⟨w4 3 rfl, List.forall_mem_cons.mpr ⟨w4 4 rfl, fun _ h => absurd h List.not_mem_nil⟩⟩⟩⟩⟩⟩⟩⟩⟩⟩⟩⟩⟩⟩⟩⟩
set_option maxRecDepth 100000 in
theorem inbX9 : ∀ w ∈ u_ws RX9 TX9 43, w ∈ BG := by
  have h : u_ws RX9 TX9 43 = [.lays "SeamPullModel" "SeamPullModel" "thrown" "I", .lays "SeamPullModel" "SeamPullModel" "status" "I", .laysFinal "SeamPullModel" "SeamPullModel" "lane" "[I", .laysFinal "SeamPullModel" "SeamPullModel" "many" "[I", .laysFinal "SeamPullModel" "SeamPullModel" "item" "[I", .lays "SeamPullModel" "SeamPullModel" "cells" "I", .lays "SeamPullModel" "SeamPullModel" "seams" "I", .lays "SeamPullModel" "SeamPullModel" "acts" "I", .lays "SeamPullModel" "SeamPullModel" "befores" "I", .laysFinal "SeamPullModel" "SeamPullModel" "act" "[I", .laysFinal "SeamPullModel" "SeamPullModel" "ahead" "[I", .laysFinal "SeamPullModel" "SeamPullModel" "behind" "[I", .lays "SeamPullModel" "SeamPullModel" "newCells" "I", .lays "SeamPullModel" "SeamPullModel" "newSeams" "I", .lays "SeamPullModel" "SeamPullModel" "newActs" "I", .lays "SeamPullModel" "SeamPullModel" "newBefores" "I", .laysFinal "SeamPullModel" "SeamPullModel" "newAct" "[I", .laysFinal "SeamPullModel" "SeamPullModel" "newAhead" "[I", .laysFinal "SeamPullModel" "SeamPullModel" "newBehind" "[I", .laysFinal "SeamPullModel" "SeamPullModel" "tape" "[I", .lays "SeamPullModel" "SeamPullModel" "taped" "I", .lays "SeamPullModel" "SeamPullModel" "latest" "I", .lays "SeamPullModel" "SeamPullModel" "length" "I", .lays "SeamPullModel" "SeamPullModel" "cursor" "I", .lays "SeamPullModel" "SeamPullModel" "token" "I", .lays "SeamPullModel" "SeamPullModel" "from" "I", .lays "SeamPullModel" "SeamPullModel" "till" "I", .lays "SeamPullModel" "SeamPullModel" "fault" "I", .lays "SeamPullModel" "SeamPullModel" "faultAt" "I", .laysFinal "SeamPullModel" "SeamPullModel" "opened" "[I", .laysFinal "SeamPullModel" "SeamPullModel" "lastOrder" "[I", .lays "SeamPullModel" "SeamPullModel" "isRun" "Z", .laysFinal "SeamPullModel" "SeamPullModel" "now" "[I", .laysFinal "SeamPullModel" "SeamPullModel" "spring" "[I", .laysFinal "SeamPullModel" "SeamPullModel" "isClamped" "[Z", .lays "SeamPullModel" "SeamPullModel" "went" "I", .laysFinal "SeamPullModel" "SeamPullModel" "left" "[I", .lays "SeamPullModel" "SeamPullModel" "leftMinutes" "I", .laysFinal "SeamPullModel" "SeamPullModel" "begins" "[I", .laysFinal "SeamPullModel" "SeamPullModel" "order" "[I", .laysFinal "SeamPullModel" "SeamPullModel" "bestOrder" "[I", .laysFinal "SeamPullModel" "SeamPullModel" "trace" "[I", .lays "SeamPullModel" "SeamPullModel" "traced" "I"] := by decide +kernel
  rw [h]
  exact List.forall_mem_cons.mpr ⟨w13 26 rfl, List.forall_mem_cons.mpr ⟨w13 27 rfl, List.forall_mem_cons.mpr ⟨w13 28 rfl, List.forall_mem_cons.mpr ⟨w13 29 rfl, List.forall_mem_cons.mpr ⟨w13 30 rfl, List.forall_mem_cons.mpr ⟨w13 31 rfl, List.forall_mem_cons.mpr ⟨w13 32 rfl, List.forall_mem_cons.mpr ⟨w13 33 rfl, List.forall_mem_cons.mpr ⟨w13 34 rfl, List.forall_mem_cons.mpr ⟨w13 35 rfl, List.forall_mem_cons.mpr ⟨w13 36 rfl, List.forall_mem_cons.mpr ⟨w13 37 rfl, List.forall_mem_cons.mpr ⟨w13 38 rfl, List.forall_mem_cons.mpr ⟨w13 39 rfl, List.forall_mem_cons.mpr ⟨w13 40 rfl, List.forall_mem_cons.mpr ⟨w13 41 rfl, List.forall_mem_cons.mpr ⟨w13 42 rfl, List.forall_mem_cons.mpr ⟨w13 43 rfl, List.forall_mem_cons.mpr ⟨w13 44 rfl, List.forall_mem_cons.mpr ⟨w13 45 rfl, List.forall_mem_cons.mpr ⟨w13 46 rfl, List.forall_mem_cons.mpr ⟨w13 47 rfl, List.forall_mem_cons.mpr ⟨w13 48 rfl, List.forall_mem_cons.mpr ⟨w13 49 rfl, List.forall_mem_cons.mpr ⟨w13 50 rfl, List.forall_mem_cons.mpr ⟨w13 51 rfl, List.forall_mem_cons.mpr ⟨w13 52 rfl, List.forall_mem_cons.mpr ⟨w13 53 rfl, List.forall_mem_cons.mpr ⟨w13 54 rfl, List.forall_mem_cons.mpr ⟨w13 55 rfl, List.forall_mem_cons.mpr ⟨w13 56 rfl, List.forall_mem_cons.mpr ⟨w13 57 rfl, List.forall_mem_cons.mpr ⟨w13 58 rfl, List.forall_mem_cons.mpr ⟨w13 59 rfl, List.forall_mem_cons.mpr ⟨w13 60 rfl, List.forall_mem_cons.mpr ⟨w13 61 rfl, List.forall_mem_cons.mpr ⟨w13 62 rfl, List.forall_mem_cons.mpr ⟨w13 63 rfl, List.forall_mem_cons.mpr ⟨w14 0 rfl, List.forall_mem_cons.mpr ⟨w14 1 rfl, List.forall_mem_cons.mpr ⟨w14 2 rfl, List.forall_mem_cons.mpr ⟨w14 3 rfl, List.forall_mem_cons.mpr ⟨w14 4 rfl, fun _ h => absurd h List.not_mem_nil⟩⟩⟩⟩⟩⟩⟩⟩⟩⟩⟩⟩⟩⟩⟩⟩⟩⟩⟩⟩⟩⟩⟩⟩⟩⟩⟩⟩⟩⟩⟩⟩⟩⟩⟩⟩⟩⟩⟩⟩⟩⟩⟩
end
section
/-! ===== a plain memory: cells by number; ints by cell and place; references between cells fixed ===== -/
abbrev MT : Type := Nat → Nat → Int32
/-- of each cell its kind (a class below 20, 20 int[], 21 byte[], 22 boolean[], 23 int[][], 24 Panel[]), its length, the cells that it points to -/
abbrev ZT : Type := (Nat → Nat) × (Nat → Nat) × (Nat → Nat → Nat)
abbrev zk (Z : ZT) : Nat → Nat := Z.1
abbrev zl (Z : ZT) : Nat → Nat := Z.2.1
abbrev zr (Z : ZT) : Nat → Nat → Nat := Z.2.2
/-- the machine's side: where classes and fields lie, how many own cells, how many given tables (from number 1000 on), addresses, classes of arrays, the first own address -/
abbrev GT : Type := va_G × Nat × Nat × (Nat → Nat) × (Nat → ClassId) × Nat
abbrev gD (G : GT) : va_G := G.1
abbrev gn (G : GT) : Nat := G.2.1
abbrev gt (G : GT) : Nat := G.2.2.1
abbrev ga (G : GT) : Nat → Nat := G.2.2.2.1
abbrev gc (G : GT) : Nat → ClassId := G.2.2.2.2.1
abbrev gb (G : GT) : Nat := G.2.2.2.2.2
abbrev gA (G : GT) : Nat → Prop := fun q => gb G ≤ q
/-- the type of a class's field -/
def fty (c : Nat) : Nat → FieldType := match c with
  | 0 => tyX0 | 1 => tyX1 | 2 => tyX2 | 3 => tyX3 | 4 => tyX4 | 5 => tyX5 | 6 => tyX6 | 7 => tyX7 | 8 => tyX8 | _ => tyX9
def isRefTy : FieldType → Bool
  | .array _ => true
  | .object _ => true
  | _ => false
/-- 0: an int or boolean, 1: a reference that stays, 2: a reference that changes (the two plans): the cell's number stands among the ints -/
def rk (c j : Nat) : Nat := if isRefTy (fty c j) then (if c = 8 ∧ (j = 11 ∨ j = 12) then 2 else 1) else 0
def nfl (c : Nat) : Nat := match vwCl[c]? with
  | some q => q.2.2
  | none => 0
def fv (G : GT) (Z : ZT) (μ : MT) (k j : Nat) : Value :=
  if rk (zk Z k) j = 0 then .int (μ k j) else if rk (zk Z k) j = 1 then .ref (ga G (zr Z k j)) else .ref (ga G (μ k j).toNatClampNeg)
def ce (G : GT) (Z : ZT) (μ : MT) (k : Nat) : va_E :=
  if zk Z k < 20 then .inr (zk Z k, (List.range (nfl (zk Z k))).map (fv G Z μ k))
  else if zk Z k < 23 then .inl (gc G (zk Z k), zl Z k, .inl (μ k))
  else .inl (gc G (zk Z k), zl Z k, .inr (.inr (.inr (.inr (fun j => some (ga G (zr Z k j)))))))
def wd (G : GT) (Z : ZT) (μ : MT) : va_W := (List.range (gn G)).map (fun k => (ga G k, ce G Z μ k))
abbrev ats (G : GT) : List (ClassId × FieldType) := [(gc G 20, .int), (gc G 21, .byte), (gc G 22, .boolean), (gc G 23, .array .int), (gc G 24, .object "SeamPull$Panel")]
def u2 (μ : MT) (k j : Nat) (v : Int32) : MT := fun k' => if k' = k then upd (μ k) j v else μ k'
theorem u2_s {μ : MT} {k j : Nat} {v : Int32} : u2 μ k j v k = upd (μ k) j v := by simp [u2]
theorem u2_n {μ : MT} {k k' j : Nat} {v : Int32} (h : k' ≠ k) : u2 μ k j v k' = μ k' := by simp [u2, h]
/-- a whole row anew -/
def u1 (μ : MT) (k : Nat) (f : Nat → Int32) : MT := fun k' => if k' = k then f else μ k'
theorem u1_s {μ : MT} {k : Nat} {f : Nat → Int32} : u1 μ k f k = f := by simp [u1]
theorem u1_n {μ : MT} {k k' : Nat} {f : Nat → Int32} (h : k' ≠ k) : u1 μ k f k' = μ k' := by simp [u1, h]
theorem wd_get {G : GT} {Z : ZT} {μ : MT} {k : Nat} (h : k < gn G) : (wd G Z μ)[k]? = some (ga G k, ce G Z μ k) := by
  unfold wd
  rw [List.getElem?_map, List.getElem?_range h]
  rfl
theorem ce_row {G : GT} {Z : ZT} {μ ν : MT} {k : Nat} (h : ν k = μ k) : ce G Z ν k = ce G Z μ k := by
  have hf : fv G Z ν k = fv G Z μ k := by
    funext j
    unfold fv
    rw [h]
  unfold ce
  rw [hf, h]
theorem wd_set {G : GT} {Z : ZT} {μ ν : MT} {k : Nat} {e : va_E} (hk : k < gn G) (he : ce G Z ν k = e) (ho : ∀ q, q ≠ k → ν q = μ q) : (wd G Z μ).set k (ga G k, e) = wd G Z ν := by
  subst he
  apply List.ext_getElem?
  intro i
  rw [List.getElem?_set]
  by_cases hi : k = i
  · subst hi
    have hl : k < (wd G Z μ).length := by simp [wd, hk]
    rw [if_pos rfl, if_pos hl, wd_get hk]
  · rw [if_neg hi]
    by_cases hg : i < gn G
    · rw [wd_get hg, wd_get hg, ce_row (ho i (fun q => hi q.symm))]
    · have hn : ∀ ξ : MT, (wd G Z ξ)[i]? = none := fun ξ => List.getElem?_eq_none (by simp [wd]; omega)
      rw [hn, hn]
/-- an own cell of a kind -/
def Ob (G : GT) (Z : ZT) (k c : Nat) : Prop := zk Z k = c ∧ k < gn G
/-- an array of ints that can be read: an own one or a given table -/
def Oa (G : GT) (Z : ZT) (k : Nat) : Prop := zk Z k = 20 ∧ (k < gn G ∨ (1000 ≤ k ∧ k < 1000 + gt G))
theorem Ob.oa {G : GT} {Z : ZT} {k : Nat} (h : Ob G Z k 20) : Oa G Z k := ⟨h.1, Or.inl h.2⟩
theorem ce_arr {G : GT} {Z : ZT} {μ : MT} {k c : Nat} (h : zk Z k = c) (h1 : 20 ≤ c) (h2 : c < 23) : ce G Z μ k = .inl (gc G c, zl Z k, .inl (μ k)) := by
  subst h
  unfold ce
  rw [if_neg (by omega), if_pos h2]
theorem ce_ref {G : GT} {Z : ZT} {μ : MT} {k c : Nat} (h : zk Z k = c) (h1 : 23 ≤ c) : ce G Z μ k = .inl (gc G c, zl Z k, .inr (.inr (.inr (.inr (fun j => some (ga G (zr Z k j))))))) := by
  subst h
  unfold ce
  rw [if_neg (by omega), if_neg (by omega)]
theorem ce_obj {G : GT} {Z : ZT} {μ : MT} {k c : Nat} (h : zk Z k = c) (h1 : c < 20) : ce G Z μ k = .inr (c, (List.range (nfl c)).map (fv G Z μ k)) := by
  subst h
  unfold ce
  rw [if_pos h1]
theorem fs_get {G : GT} {Z : ZT} {μ : MT} {k c j : Nat} (hj : j < nfl c) : ((List.range (nfl c)).map (fv G Z μ k))[j]? = some (fv G Z μ k j) := by
  rw [List.getElem?_map, List.getElem?_range hj]
  rfl
theorem fs_set {G : GT} {Z : ZT} {μ : MT} {k c j : Nat} {x : Int32} {v : Value} (hc : zk Z k = c) (hv : v = fv G Z (u2 μ k j x) k j) : ((List.range (nfl c)).map (fv G Z μ k)).set j v = (List.range (nfl c)).map (fv G Z (u2 μ k j x) k) := by
  subst hv
  apply List.ext_getElem?
  intro i
  rw [List.getElem?_set, List.length_map, List.length_range]
  by_cases hi : j = i
  · subst hi
    rw [if_pos rfl]
    by_cases hj : j < nfl c
    · rw [if_pos hj, fs_get hj]
    · rw [if_neg hj, List.getElem?_eq_none (by simp; omega)]
  · rw [if_neg hi]
    by_cases hg : i < nfl c
    · rw [fs_get hg, fs_get hg]
      congr 1
      unfold fv
      rw [u2_s]
      have hij : ¬ i = j := fun q => hi q.symm
      simp [upd, hij]
    · rw [List.getElem?_eq_none (by simp; omega), List.getElem?_eq_none (by simp; omega)]
end
section
/-! ===== the walk over the plain memory: one rule an instruction ===== -/
abbrev CX : Type := Program × Launch × Env × Room × State × MethodId × Array Value × List Frame × Method × Code
abbrev xR (x : CX) : Room := x.2.2.2.1
abbrev xs (x : CX) : State := x.2.2.2.2.1
abbrev xm (x : CX) : MethodId := x.2.2.2.2.2.1
abbrev xa (x : CX) : Array Value := x.2.2.2.2.2.2.1
abbrev xb (x : CX) : List Frame := x.2.2.2.2.2.2.2.1
abbrev xM (x : CX) : Method := x.2.2.2.2.2.2.2.2.1
abbrev xc (x : CX) : Code := x.2.2.2.2.2.2.2.2.2
/-- the String constants -/
abbrev txK : List Nat := [45, 47, 49, 51, 53, 55, 57, 59, 61, 63, 65, 67, 69, 71]
abbrev txS : List String := ["tack", "on", "back", "skip", "second", "turned", "flame", "wait", "clamp", "free", "panel", "seam", "before", ""]
abbrev txL : List Nat := [4, 2, 4, 4, 6, 6, 5, 4, 5, 4, 5, 4, 6, 0]
abbrev txB : List (List Int32) := [[116, 97, 99, 107], [111, 110], [98, 97, 99, 107], [115, 107, 105, 112], [115, 101, 99, 111, 110, 100], [116, 117, 114, 110, 101, 100], [102, 108, 97, 109, 101], [119, 97, 105, 116], [99, 108, 97, 109, 112], [102, 114, 101, 101], [112, 97, 110, 101, 108], [115, 101, 97, 109], [98, 101, 102, 111, 114, 101], []]
/-- the words on nest mates -/
def nestW : List Cond := [.methodLinkNest "SeamPull" 18 ⟨"SeamPull$Tape", "<init>", "()V"⟩ "SeamPull", .fieldLinkNest "SeamPull" 335 "SeamPull$Tape" "size" "I" "SeamPull", .methodLinkNest "SeamPull" 44 ⟨"SeamPull$Panel", "<init>", "()V"⟩ "SeamPull", .fieldLinkNest "SeamPull" 233 "SeamPull$Panel" "hold" "[I" "SeamPull", .fieldLinkNest "SeamPull$Beforehand" 46 "SeamPull$Panel" "bend" "[I" "SeamPull", .fieldLinkNest "SeamPull" 236 "SeamPull$Panel" "bend" "[I" "SeamPull", .fieldLinkNest "SeamPull$Beforehand" 42 "SeamPull$Panel" "cells" "I" "SeamPull", .fieldLinkNest "SeamPull" 245 "SeamPull$Panel" "minutes" "I" "SeamPull", .methodLinkNest "SeamPull$Search" 38 ⟨"SeamPull$Panel", "<init>", "()V"⟩ "SeamPull", .fieldLinkNest "SeamPull" 261 "SeamPull$Search" "nearest" "[I" "SeamPull", .fieldLinkNest "SeamPull" 255 "SeamPull$Search" "fits" "Z" "SeamPull", .fieldLinkNest "SeamPull" 258 "SeamPull$Search" "leastOff" "I" "SeamPull", .methodLinkNest "SeamPull" 61 ⟨"SeamPull$Beforehand", "<init>", "()V"⟩ "SeamPull", .fieldLinkNest "SeamPull" 270 "SeamPull$Beforehand" "bends" "[I" "SeamPull", .methodLinkNest "SeamPull" 68 ⟨"SeamPull$Asks", "<init>", "()V"⟩ "SeamPull", .methodLinkNest "SeamPull" 75 ⟨"SeamPull$Plan", "<init>", "()V"⟩ "SeamPull", .fieldLinkNest "SeamPull$Search" 39 "SeamPull$Plan" "cells" "I" "SeamPull", .fieldLinkNest "SeamPull$Reader" 54 "SeamPull$Plan" "cells" "I" "SeamPull", .fieldLinkNest "SeamPull$Panel" 61 "SeamPull$Plan" "cells" "I" "SeamPull", .fieldLinkNest "SeamPull" 172 "SeamPull$Plan" "cells" "I" "SeamPull", .fieldLinkNest "SeamPull$Reader" 61 "SeamPull$Plan" "seams" "I" "SeamPull", .fieldLinkNest "SeamPull$Search" 52 "SeamPull$Plan" "seams" "I" "SeamPull", .fieldLinkNest "SeamPull$Panel" 68 "SeamPull$Plan" "seams" "I" "SeamPull", .fieldLinkNest "SeamPull" 210 "SeamPull$Plan" "seams" "I" "SeamPull", .fieldLinkNest "SeamPull$Reader" 74 "SeamPull$Plan" "acts" "I" "SeamPull", .fieldLinkNest "SeamPull" 154 "SeamPull$Plan" "acts" "I" "SeamPull", .fieldLinkNest "SeamPull$Reader" 81 "SeamPull$Plan" "befores" "I" "SeamPull", .fieldLinkNest "SeamPull" 332 "SeamPull$Plan" "befores" "I" "SeamPull", .fieldLinkNest "SeamPull$Panel" 88 "SeamPull$Plan" "actKind" "[I" "SeamPull", .fieldLinkNest "SeamPull" 186 "SeamPull$Plan" "actKind" "[I" "SeamPull", .fieldLinkNest "SeamPull$Panel" 85 "SeamPull$Plan" "actPlace" "[I" "SeamPull", .fieldLinkNest "SeamPull" 189 "SeamPull$Plan" "actPlace" "[I" "SeamPull", .fieldLinkNest "SeamPull$Panel" 95 "SeamPull$Plan" "actStrength" "[I" "SeamPull", .fieldLinkNest "SeamPull$Asks" 53 "SeamPull$Plan" "actStrength" "[I" "SeamPull", .fieldLinkNest "SeamPull" 195 "SeamPull$Plan" "actStrength" "[I" "SeamPull", .fieldLinkNest "SeamPull" 199 "SeamPull$Plan" "actSeam" "[I" "SeamPull", .fieldLinkNest "SeamPull$Beforehand" 29 "SeamPull" "BY_NUMBERS" "[I" "SeamPull"]
/-- what the tables say, at a state -/
def KS (G : GT) (U : State) : Prop := va_K (gD G) vwCl (ats G) U ∧ (∀ w ∈ nestW, va_Nw w U) ∧ (∀ i, i < 14 → vk_R "SeamPull$Tape" (txK.getD i 0) (txS.getD i "") (ga G (2000 + i)) U)
/-- the given statics, at a state and a heap -/
def KH (G : GT) (U : State) (H : Heap) : Prop := va_Z "SeamPull" "BY_NUMBERS" "[I" (.ref (ga G 1000)) (gA G) U H ∧ va_Z "SeamPull$Asks" "NEAREST" "[I" (.ref (ga G 1001)) (gA G) U H ∧ va_Z "SeamPull$Asks" "SIZE_BODY" "[I" (.ref (ga G 1002)) (gA G) U H ∧ va_Z "SeamPull$Asks" "MARK_BODY" "[I" (.ref (ga G 1003)) (gA G) U H ∧ va_Z "java/lang/String" "COMPACT_STRINGS" "Z" (.int 1) (gA G) U H ∧ vk_S 14 txL txB (fun i => ga G (2000 + i)) (fun i => ga G (2100 + i)) (gA G) U H
/-- the given tables -/
def roT : List (List Int32) := [[0, 1, 2, 3, 4, 5], [0, 0, 0, 2, 3, 2, 2, 0], [0, 0, 11, 12, 13, 0, 0, 14], [0, 21, 0, 0, 0, 0, 22, 23]]
def roR (i j : Nat) : Int32 := (roT.getD i []).getD j 0
def KT (G : GT) (U : State) (H : Heap) : Prop := ∀ i, i < gt G → va_T .int (ga G (1000 + i)) (roT.getD i []).length (fun j => .int (roR i j)) (gA G) U H
/-- the given tables' rows stand in the memory -/
def ROk (G : GT) (μ : MT) : Prop := ∀ i, i < gt G → μ (1000 + i) = roR i
def DA (G : GT) : Prop := (∀ i j, i < gn G → j < gn G → ga G i = ga G j → i = j) ∧ (∀ k, k < gn G → gb G ≤ ga G k) ∧ gn G ≤ 1000
/-- the kind that a class's field points to -/
def tgt (c j : Nat) : Nat := match c, j with
  | 0, 0 => 20
  | 1, 0 => 20
  | 1, 1 => 20
  | 2, 0 => 20
  | 2, 1 => 20
  | 2, 2 => 20
  | 2, 3 => 20
  | 2, 4 => 20
  | 2, 5 => 20
  | 3, 4 => 20
  | 3, 5 => 20
  | 3, 6 => 20
  | 3, 7 => 20
  | 3, 8 => 20
  | 3, 9 => 20
  | 4, 0 => 7
  | 5, 0 => 24
  | 5, 1 => 20
  | 5, 2 => 20
  | 5, 3 => 20
  | 6, 0 => 20
  | 6, 1 => 20
  | 6, 2 => 23
  | 7, 0 => 21
  | 8, 0 => 6
  | 8, 1 => 7
  | 8, 2 => 4
  | 8, 3 => 20
  | 8, 4 => 20
  | 8, 5 => 20
  | 8, 6 => 2
  | 8, 7 => 2
  | 8, 8 => 5
  | 8, 9 => 1
  | 8, 10 => 0
  | 8, 11 => 3
  | 8, 12 => 3
  | 9, 2 => 20
  | 9, 3 => 20
  | 9, 4 => 20
  | 9, 9 => 20
  | 9, 10 => 20
  | 9, 11 => 20
  | 9, 16 => 20
  | 9, 17 => 20
  | 9, 18 => 20
  | 9, 19 => 20
  | 9, 29 => 20
  | 9, 30 => 20
  | 9, 32 => 20
  | 9, 33 => 20
  | 9, 34 => 22
  | 9, 36 => 20
  | 9, 38 => 20
  | 9, 39 => 20
  | 9, 40 => 20
  | 9, 41 => 20
  | _, _ => 99
def WT (G : GT) (Z : ZT) : Prop := (∀ c j k, c < 20 → rk c j = 1 → j < nfl c → Ob G Z k c → Ob G Z (zr Z k j) (tgt c j)) ∧ (∀ k i, Ob G Z k 23 → i < zl Z k → Ob G Z (zr Z k i) 20) ∧ (∀ k i, Ob G Z k 24 → i < zl Z k → Ob G Z (zr Z k i) 2) ∧ (∀ i, i < gt G → zl Z (1000 + i) = (roT.getD i []).length)
def CF (x : CX) (G : GT) (Z : ZT) (cc : ByteArray) (nL : Nat) (Ts : List Cond) (own : String) : Prop :=
  x.1.tables.exec = Jvm.exec ∧ (xc x).code = cc ∧ (xc x).maxLocals = nL ∧ (xs x).vm.findClass own = some (xm x).cls ∧ (∀ w ∈ Ts, w.before (xa x) (xs x) = true) ∧ KS G (xs x) ∧ KH G (xs x) (xs x).heap ∧ DA G ∧ WT G Z ∧ (xM x).locks = false ∧ KT G (xs x) (xs x).heap
def PW (G : GT) (Z : ZT) (μ : MT) (s : State) (H : Heap) (locs : List Loc) : Prop := va_P (gD G) vwCl (wd G Z μ) H ∧ va_S (gA G) s.heap H locs ∧ ROk G μ
def VK {α β : Type} (x : CX) (G : GT) (Z : ZT) (cs : Nat × Nat) (nL : Nat) (Q : Option Value → MT → State → Prop) (J : α → Option Value × MT) (pc : Nat) (lv : List (Nat × Value)) (st : List Value) (μ : MT) (o : Option β) (f : β → Option α) : Prop :=
  ∀ a, o.bind f = some a → ∀ (H : Heap) (locs : List Loc) (ls : Array Slot), PW G Z μ (xs x) H locs → lv_has ls nL lv → W x.1 x.2.1 x.2.2.1 (xR x) (xs x) (xm x) (xa x) (xb x) (xM x) (xc x) H locs cs.1 cs.2 (Q (J a).1 (J a).2) (F0 (xm x) pc ls st)
theorem DA.vd {G : GT} (h : DA G) (Z : ZT) (μ : MT) : va_D (gA G) (wd G Z μ) := by
  have key : ∀ (i : Nat) (q : Nat × va_E), (wd G Z μ)[i]? = some q → i < gn G ∧ q.1 = ga G i := by
    intro i q hi
    have hl : i < gn G := by
      have := (List.getElem?_eq_some_iff.mp hi).1
      simpa [wd] using this
    rw [wd_get hl] at hi
    cases hi
    exact ⟨hl, rfl⟩
  refine ⟨fun i j p q hi hj hpq => ?_, fun k q hk => ?_⟩
  · obtain ⟨h1, h2⟩ := key i p hi
    obtain ⟨h3, h4⟩ := key j q hj
    exact h.1 i j h1 h3 (by rw [← h2, ← h4]; exact hpq)
  · obtain ⟨h1, h2⟩ := key k q hk
    show gb G ≤ q.1
    rw [h2]
    exact h.2.1 k h1
theorem ROk.u2 {G : GT} {μ ν : MT} (h : ROk G μ) (ho : ∀ q, 1000 ≤ q → ν q = μ q) : ROk G ν := by
  intro i hi
  rw [ho (1000 + i) (by omega)]
  exact h i hi
theorem ob_r {α : Type} (o : Option α) : o.bind some = o := by cases o <;> rfl
section VRULES
variable {α β γ : Type} {x : CX} {G : GT} {Z : ZT} {cs : Nat × Nat} {nL : Nat} {Q : Option Value → MT → State → Prop} {J : α → Option Value × MT} {pc : Nat} {lv : List (Nat × Value)} {st : List Value} {μ : MT} {o : Option β} {f : β → Option α} {cc : ByteArray} {Ts : List Cond} {own : String}
theorem v_enter {o : Option γ} {g : γ → Option β} (h : VK x G Z cs nL Q J pc lv st μ o (fun t => (g t).bind f)) : VK x G Z cs nL Q J pc lv st μ (o.bind g) f := by
  intro a ha
  refine h a ?_
  rw [Option.bind_assoc] at ha
  exact ha
theorem v_leaf {t : γ} {F : γ → Option α} (h : VK x G Z cs nL Q J pc lv st μ (F t) some) : VK x G Z cs nL Q J pc lv st μ (some t) F := by
  intro a ha
  exact h a (by rw [ob_r]; exact ha)
/-- what the rest is, by its value alone -/
theorem v_unb {o' : Option α} (h : VK x G Z cs nL Q J pc lv st μ o f) (e : o.bind f = o') : VK x G Z cs nL Q J pc lv st μ o' some := by
  intro a ha
  rw [ob_r] at ha
  exact h a (by rw [e]; exact ha)
theorem v_none {F : γ → Option α} : VK x G Z cs nL Q J pc lv st μ none F := by
  intro a ha
  cases ha
theorem v_case {c : Prop} [Decidable c] {o1 o2 : Option β} (h1 : c → VK x G Z cs nL Q J pc lv st μ o1 f) (h2 : ¬ c → VK x G Z cs nL Q J pc lv st μ o2 f) : VK x G Z cs nL Q J pc lv st μ (if c then o1 else o2) f := by
  by_cases h : c
  · rw [if_pos h]
    exact h1 h
  · rw [if_neg h]
    exact h2 h
theorem v_sub {lv' : List (Nat × Value)} (ks : List Nat) (hl : lv_pick lv ks = lv') (h : VK x G Z cs nL Q J pc lv' st μ o f) : VK x G Z cs nL Q J pc lv st μ o f :=
  fun a ha H locs ls hP hL => h a ha H locs ls hP (lv_sub hL ks hl)
/-- a value gets a name -/
theorem v_let {y : γ} {pc : Nat} {g : γ → Option β} (P : γ → List (Nat × Value)) (S : γ → List Value) (h : ∀ z, VK x G Z cs nL Q J pc (P z) (S z) μ (g z) f) : VK x G Z cs nL Q J pc (P y) (S y) μ ((some y).bind g) f := h y
theorem v_iconst (C : CF x G Z cc nL Ts own) {n : Int} {v : Int32} (hv : Int32.ofInt n = v) (hd : decode cc pc = .ok (.iconst n, 1))
    (k : VK x G Z cs nL Q J (pc + 1) lv (.int v :: st) μ o f) : VK x G Z cs nL Q J pc lv st μ o f :=
  fun a ha H locs ls hP hl => lv_iconst C.1 C.2.1 hd hv (k a ha H locs ls hP hl)
theorem v_bipush (C : CF x G Z cc nL Ts own) {n : Int} {v : Int32} (hv : (Int8.ofInt n).toInt32 = v) (hd : decode cc pc = .ok (.bipush n, 2))
    (k : VK x G Z cs nL Q J (pc + 2) lv (.int v :: st) μ o f) : VK x G Z cs nL Q J pc lv st μ o f :=
  fun a ha H locs ls hP hl => lv_bipush C.1 C.2.1 hd hv (k a ha H locs ls hP hl)
theorem v_sipush (C : CF x G Z cc nL Ts own) {n : Int} {v : Int32} (hv : (Int16.ofInt n).toInt32 = v) (hd : decode cc pc = .ok (.sipush n, 3))
    (k : VK x G Z cs nL Q J (pc + 3) lv (.int v :: st) μ o f) : VK x G Z cs nL Q J pc lv st μ o f :=
  fun a ha H locs ls hP hl => lv_sipush C.1 C.2.1 hd hv (k a ha H locs ls hP hl)
theorem v_lconst (C : CF x G Z cc nL Ts own) {n : Fin 2} {v : Int64} (hv : Int64.ofNat (n : Nat) = v) (hd : decode cc pc = .ok (.lconst n, 1))
    (k : VK x G Z cs nL Q J (pc + 1) lv (.long v :: st) μ o f) : VK x G Z cs nL Q J pc lv st μ o f :=
  fun a ha H locs ls hP hl => lv_lconst C.1 C.2.1 hd hv (k a ha H locs ls hP hl)
theorem v_ldc (C : CF x G Z cc nL Ts own) {index : Nat} {v : Int32} (hv : Cond.constant own index v ∈ Ts) (hd : decode cc pc = .ok (.ldc index, 2))
    (k : VK x G Z cs nL Q J (pc + 2) lv (.int v :: st) μ o f) : VK x G Z cs nL Q J pc lv st μ o f :=
  fun a ha H locs ls hP hl => lv_ldc C.1 C.2.1 C.2.2.2.1 (C.2.2.2.2.1 _ hv) hd (k a ha H locs ls hP hl)
theorem v_ldcw (C : CF x G Z cc nL Ts own) {index : Nat} {v : Int32} (hv : Cond.constant own index v ∈ Ts) (hd : decode cc pc = .ok (.ldc_w index, 3))
    (k : VK x G Z cs nL Q J (pc + 3) lv (.int v :: st) μ o f) : VK x G Z cs nL Q J pc lv st μ o f :=
  fun a ha H locs ls hP hl => lv_ldcw C.1 C.2.1 C.2.2.2.1 (C.2.2.2.2.1 _ hv) hd (k a ha H locs ls hP hl)
theorem v_ldc2 (C : CF x G Z cc nL Ts own) {index : Nat} {v : Int64} (hv : Cond.constantLong own index v ∈ Ts) (hd : decode cc pc = .ok (.ldc2_w index, 3))
    (k : VK x G Z cs nL Q J (pc + 3) lv (.long v :: st) μ o f) : VK x G Z cs nL Q J pc lv st μ o f :=
  fun a ha H locs ls hP hl => lv_ldc2 C.1 C.2.1 C.2.2.2.1 (C.2.2.2.2.1 _ hv) hd (k a ha H locs ls hP hl)
theorem v_iload_n (C : CF x G Z cc nL Ts own) {q : Fin 4} {i n : Nat} {y : Int32} (hi : (q : Nat) = i) (hy : lv[n]? = some (i, .int y)) (hd : decode cc pc = .ok (.iload_n q, 1))
    (k : VK x G Z cs nL Q J (pc + 1) lv (.int y :: st) μ o f) : VK x G Z cs nL Q J pc lv st μ o f :=
  fun a ha H locs ls hP hl => lv_iload_n C.1 C.2.1 hd hi (lv_at hl n hy) (k a ha H locs ls hP hl)
theorem v_iload (C : CF x G Z cc nL Ts own) {i n : Nat} {y : Int32} (hy : lv[n]? = some (i, .int y)) (hd : decode cc pc = .ok (.iload i, 2))
    (k : VK x G Z cs nL Q J (pc + 2) lv (.int y :: st) μ o f) : VK x G Z cs nL Q J pc lv st μ o f :=
  fun a ha H locs ls hP hl => lv_iload C.1 C.2.1 hd (lv_at hl n hy) (k a ha H locs ls hP hl)
theorem v_lload_n (C : CF x G Z cc nL Ts own) {q : Fin 4} {i n : Nat} {y : Int64} (hi : (q : Nat) = i) (hy : lv[n]? = some (i, .long y)) (hd : decode cc pc = .ok (.lload_n q, 1))
    (k : VK x G Z cs nL Q J (pc + 1) lv (.long y :: st) μ o f) : VK x G Z cs nL Q J pc lv st μ o f :=
  fun a ha H locs ls hP hl => lv_lload_n C.1 C.2.1 hd hi (lv_at hl n hy) (k a ha H locs ls hP hl)
theorem v_lload (C : CF x G Z cc nL Ts own) {i n : Nat} {y : Int64} (hy : lv[n]? = some (i, .long y)) (hd : decode cc pc = .ok (.lload i, 2))
    (k : VK x G Z cs nL Q J (pc + 2) lv (.long y :: st) μ o f) : VK x G Z cs nL Q J pc lv st μ o f :=
  fun a ha H locs ls hP hl => lv_lload C.1 C.2.1 hd (lv_at hl n hy) (k a ha H locs ls hP hl)
theorem v_aload_n (C : CF x G Z cc nL Ts own) {q : Fin 4} {i n : Nat} {y : Nat} (hi : (q : Nat) = i) (hy : lv[n]? = some (i, .ref y)) (hd : decode cc pc = .ok (.aload_n q, 1))
    (k : VK x G Z cs nL Q J (pc + 1) lv (.ref y :: st) μ o f) : VK x G Z cs nL Q J pc lv st μ o f :=
  fun a ha H locs ls hP hl => lv_aload_n C.1 C.2.1 hd hi (lv_at hl n hy) (k a ha H locs ls hP hl)
theorem v_aload (C : CF x G Z cc nL Ts own) {i n : Nat} {y : Nat} (hy : lv[n]? = some (i, .ref y)) (hd : decode cc pc = .ok (.aload i, 2))
    (k : VK x G Z cs nL Q J (pc + 2) lv (.ref y :: st) μ o f) : VK x G Z cs nL Q J pc lv st μ o f :=
  fun a ha H locs ls hP hl => lv_aload C.1 C.2.1 hd (lv_at hl n hy) (k a ha H locs ls hP hl)
theorem v_istore_n (C : CF x G Z cc nL Ts own) {q : Fin 4} {i : Nat} {y : Int32} {lv' : List (Nat × Value)} (hi : (q : Nat) = i) (hn : i < nL) (hv : (i, Value.int y) :: lv.filter (fun q => !(q.1 == i) && !(q.1 + 1 == i && q.2.category == 2)) = lv') (hd : decode cc pc = .ok (.istore_n q, 1))
    (k : VK x G Z cs nL Q J (pc + 1) lv' st μ o f) : VK x G Z cs nL Q J pc lv (.int y :: st) μ o f :=
  fun a ha H locs ls hP hl => lv_istore_n C.1 C.2.1 hd hi hl hn hv (fun ls hl => k a ha H locs ls hP hl)
theorem v_istore (C : CF x G Z cc nL Ts own) {i : Nat} {y : Int32} {lv' : List (Nat × Value)} (hn : i < nL) (hv : (i, Value.int y) :: lv.filter (fun q => !(q.1 == i) && !(q.1 + 1 == i && q.2.category == 2)) = lv') (hd : decode cc pc = .ok (.istore i, 2))
    (k : VK x G Z cs nL Q J (pc + 2) lv' st μ o f) : VK x G Z cs nL Q J pc lv (.int y :: st) μ o f :=
  fun a ha H locs ls hP hl => lv_istore C.1 C.2.1 hd hl hn hv (fun ls hl => k a ha H locs ls hP hl)
theorem v_lstore_n (C : CF x G Z cc nL Ts own) {q : Fin 4} {i : Nat} {y : Int64} {lv' : List (Nat × Value)} (hi : (q : Nat) = i) (hn : i + 1 < nL) (hv : (i, Value.long y) :: lv.filter (fun q => !(q.1 == i) && (!(q.1 == i + 1) && !(q.1 + 1 == i && q.2.category == 2))) = lv') (hd : decode cc pc = .ok (.lstore_n q, 1))
    (k : VK x G Z cs nL Q J (pc + 1) lv' st μ o f) : VK x G Z cs nL Q J pc lv (.long y :: st) μ o f :=
  fun a ha H locs ls hP hl => lv_lstore_n C.1 C.2.1 hd hi hl hn hv (fun ls hl => k a ha H locs ls hP hl)
theorem v_lstore (C : CF x G Z cc nL Ts own) {i : Nat} {y : Int64} {lv' : List (Nat × Value)} (hn : i + 1 < nL) (hv : (i, Value.long y) :: lv.filter (fun q => !(q.1 == i) && (!(q.1 == i + 1) && !(q.1 + 1 == i && q.2.category == 2))) = lv') (hd : decode cc pc = .ok (.lstore i, 2))
    (k : VK x G Z cs nL Q J (pc + 2) lv' st μ o f) : VK x G Z cs nL Q J pc lv (.long y :: st) μ o f :=
  fun a ha H locs ls hP hl => lv_lstore C.1 C.2.1 hd hl hn hv (fun ls hl => k a ha H locs ls hP hl)
theorem v_astore_n (C : CF x G Z cc nL Ts own) {q : Fin 4} {i : Nat} {y : Nat} {lv' : List (Nat × Value)} (hi : (q : Nat) = i) (hn : i < nL) (hv : (i, Value.ref y) :: lv.filter (fun q => !(q.1 == i) && !(q.1 + 1 == i && q.2.category == 2)) = lv') (hd : decode cc pc = .ok (.astore_n q, 1))
    (k : VK x G Z cs nL Q J (pc + 1) lv' st μ o f) : VK x G Z cs nL Q J pc lv (.ref y :: st) μ o f :=
  fun a ha H locs ls hP hl => lv_astore_n C.1 C.2.1 hd hi hl hn hv (fun ls hl => k a ha H locs ls hP hl)
theorem v_astore (C : CF x G Z cc nL Ts own) {i : Nat} {y : Nat} {lv' : List (Nat × Value)} (hn : i < nL) (hv : (i, Value.ref y) :: lv.filter (fun q => !(q.1 == i) && !(q.1 + 1 == i && q.2.category == 2)) = lv') (hd : decode cc pc = .ok (.astore i, 2))
    (k : VK x G Z cs nL Q J (pc + 2) lv' st μ o f) : VK x G Z cs nL Q J pc lv (.ref y :: st) μ o f :=
  fun a ha H locs ls hP hl => lv_astore C.1 C.2.1 hd hl hn hv (fun ls hl => k a ha H locs ls hP hl)
theorem v_iinc (C : CF x G Z cc nL Ts own) {i n : Nat} {z : Int} {y v : Int32} {lv' : List (Nat × Value)} (hy : lv[n]? = some (i, .int y)) (hz : y + Int32.ofInt z = v) (hn : i < nL) (hv : (i, Value.int v) :: lv.filter (fun q => !(q.1 == i) && !(q.1 + 1 == i && q.2.category == 2)) = lv') (hd : decode cc pc = .ok (.iinc i z, 3))
    (k : VK x G Z cs nL Q J (pc + 3) lv' st μ o f) : VK x G Z cs nL Q J pc lv st μ o f :=
  fun a ha H locs ls hP hl => lv_iinc C.1 C.2.1 hd hl hy hz hn hv (fun ls hl => k a ha H locs ls hP hl)
theorem v_iadd (C : CF x G Z cc nL Ts own) {y z : Int32} (hd : decode cc pc = .ok (.iadd, 1))
    (k : VK x G Z cs nL Q J (pc + 1) lv (.int (y + z) :: st) μ o f) : VK x G Z cs nL Q J pc lv (.int z :: .int y :: st) μ o f :=
  fun a ha H locs ls hP hl => lv_iadd C.1 C.2.1 hd (k a ha H locs ls hP hl)
theorem v_isub (C : CF x G Z cc nL Ts own) {y z : Int32} (hd : decode cc pc = .ok (.isub, 1))
    (k : VK x G Z cs nL Q J (pc + 1) lv (.int (y - z) :: st) μ o f) : VK x G Z cs nL Q J pc lv (.int z :: .int y :: st) μ o f :=
  fun a ha H locs ls hP hl => lv_isub C.1 C.2.1 hd (k a ha H locs ls hP hl)
theorem v_imul (C : CF x G Z cc nL Ts own) {y z : Int32} (hd : decode cc pc = .ok (.imul, 1))
    (k : VK x G Z cs nL Q J (pc + 1) lv (.int (y * z) :: st) μ o f) : VK x G Z cs nL Q J pc lv (.int z :: .int y :: st) μ o f :=
  fun a ha H locs ls hP hl => lv_imul C.1 C.2.1 hd (k a ha H locs ls hP hl)
theorem v_iand (C : CF x G Z cc nL Ts own) {y z : Int32} (hd : decode cc pc = .ok (.iand, 1))
    (k : VK x G Z cs nL Q J (pc + 1) lv (.int (y &&& z) :: st) μ o f) : VK x G Z cs nL Q J pc lv (.int z :: .int y :: st) μ o f :=
  fun a ha H locs ls hP hl => lv_iand C.1 C.2.1 hd (k a ha H locs ls hP hl)
theorem v_ior (C : CF x G Z cc nL Ts own) {y z : Int32} (hd : decode cc pc = .ok (.ior, 1))
    (k : VK x G Z cs nL Q J (pc + 1) lv (.int (y ||| z) :: st) μ o f) : VK x G Z cs nL Q J pc lv (.int z :: .int y :: st) μ o f :=
  fun a ha H locs ls hP hl => lv_ior C.1 C.2.1 hd (k a ha H locs ls hP hl)
theorem v_ixor (C : CF x G Z cc nL Ts own) {y z : Int32} (hd : decode cc pc = .ok (.ixor, 1))
    (k : VK x G Z cs nL Q J (pc + 1) lv (.int (y ^^^ z) :: st) μ o f) : VK x G Z cs nL Q J pc lv (.int z :: .int y :: st) μ o f :=
  fun a ha H locs ls hP hl => lv_ixor C.1 C.2.1 hd (k a ha H locs ls hP hl)
theorem v_ishl (C : CF x G Z cc nL Ts own) {y z : Int32} (hd : decode cc pc = .ok (.ishl, 1))
    (k : VK x G Z cs nL Q J (pc + 1) lv (.int (y <<< (z &&& 31)) :: st) μ o f) : VK x G Z cs nL Q J pc lv (.int z :: .int y :: st) μ o f :=
  fun a ha H locs ls hP hl => lv_ishl C.1 C.2.1 hd (k a ha H locs ls hP hl)
theorem v_ishr (C : CF x G Z cc nL Ts own) {y z : Int32} (hd : decode cc pc = .ok (.ishr, 1))
    (k : VK x G Z cs nL Q J (pc + 1) lv (.int (y >>> (z &&& 31)) :: st) μ o f) : VK x G Z cs nL Q J pc lv (.int z :: .int y :: st) μ o f :=
  fun a ha H locs ls hP hl => lv_ishr C.1 C.2.1 hd (k a ha H locs ls hP hl)
theorem v_iushr (C : CF x G Z cc nL Ts own) {y z v : Int32} (hv : (y.toUInt32 >>> (z.toUInt32 &&& Int32.toUInt32 31)).toInt32 = v) (hd : decode cc pc = .ok (.iushr, 1))
    (k : VK x G Z cs nL Q J (pc + 1) lv (.int v :: st) μ o f) : VK x G Z cs nL Q J pc lv (.int z :: .int y :: st) μ o f :=
  fun a ha H locs ls hP hl => lv_iushr C.1 C.2.1 hd hv (k a ha H locs ls hP hl)
theorem v_ladd (C : CF x G Z cc nL Ts own) {y z : Int64} (hd : decode cc pc = .ok (.ladd, 1))
    (k : VK x G Z cs nL Q J (pc + 1) lv (.long (y + z) :: st) μ o f) : VK x G Z cs nL Q J pc lv (.long z :: .long y :: st) μ o f :=
  fun a ha H locs ls hP hl => lv_ladd C.1 C.2.1 hd (k a ha H locs ls hP hl)
theorem v_lsub (C : CF x G Z cc nL Ts own) {y z : Int64} (hd : decode cc pc = .ok (.lsub, 1))
    (k : VK x G Z cs nL Q J (pc + 1) lv (.long (y - z) :: st) μ o f) : VK x G Z cs nL Q J pc lv (.long z :: .long y :: st) μ o f :=
  fun a ha H locs ls hP hl => lv_lsub C.1 C.2.1 hd (k a ha H locs ls hP hl)
theorem v_land (C : CF x G Z cc nL Ts own) {y z : Int64} (hd : decode cc pc = .ok (.land, 1))
    (k : VK x G Z cs nL Q J (pc + 1) lv (.long (y &&& z) :: st) μ o f) : VK x G Z cs nL Q J pc lv (.long z :: .long y :: st) μ o f :=
  fun a ha H locs ls hP hl => lv_land C.1 C.2.1 hd (k a ha H locs ls hP hl)
theorem v_lor (C : CF x G Z cc nL Ts own) {y z : Int64} (hd : decode cc pc = .ok (.lor, 1))
    (k : VK x G Z cs nL Q J (pc + 1) lv (.long (y ||| z) :: st) μ o f) : VK x G Z cs nL Q J pc lv (.long z :: .long y :: st) μ o f :=
  fun a ha H locs ls hP hl => lv_lor C.1 C.2.1 hd (k a ha H locs ls hP hl)
theorem v_lshl (C : CF x G Z cc nL Ts own) {y v : Int64} {z : Int32} (hv : y <<< (z.toInt64 &&& 63) = v) (hd : decode cc pc = .ok (.lshl, 1))
    (k : VK x G Z cs nL Q J (pc + 1) lv (.long v :: st) μ o f) : VK x G Z cs nL Q J pc lv (.int z :: .long y :: st) μ o f :=
  fun a ha H locs ls hP hl => lv_lshl C.1 C.2.1 hd hv (k a ha H locs ls hP hl)
theorem v_lshr (C : CF x G Z cc nL Ts own) {y v : Int64} {z : Int32} (hv : y >>> (z.toInt64 &&& 63) = v) (hd : decode cc pc = .ok (.lshr, 1))
    (k : VK x G Z cs nL Q J (pc + 1) lv (.long v :: st) μ o f) : VK x G Z cs nL Q J pc lv (.int z :: .long y :: st) μ o f :=
  fun a ha H locs ls hP hl => lv_lshr C.1 C.2.1 hd hv (k a ha H locs ls hP hl)
theorem v_lcmp (C : CF x G Z cc nL Ts own) {y z : Int64} (hd : decode cc pc = .ok (.lcmp, 1))
    (k : VK x G Z cs nL Q J (pc + 1) lv (.int (lg_cmp y z) :: st) μ o f) : VK x G Z cs nL Q J pc lv (.long z :: .long y :: st) μ o f :=
  fun a ha H locs ls hP hl => W.lcmp C.1 C.2.1 hd (k a ha H locs ls hP hl)
theorem v_ineg (C : CF x G Z cc nL Ts own) {y : Int32} (hd : decode cc pc = .ok (.ineg, 1))
    (k : VK x G Z cs nL Q J (pc + 1) lv (.int (-y) :: st) μ o f) : VK x G Z cs nL Q J pc lv (.int y :: st) μ o f :=
  fun a ha H locs ls hP hl => lv_ineg C.1 C.2.1 hd (k a ha H locs ls hP hl)
theorem v_i2l (C : CF x G Z cc nL Ts own) {y : Int32} {v : Int64} (hv : y.toInt64 = v) (hd : decode cc pc = .ok (.i2l, 1))
    (k : VK x G Z cs nL Q J (pc + 1) lv (.long v :: st) μ o f) : VK x G Z cs nL Q J pc lv (.int y :: st) μ o f :=
  fun a ha H locs ls hP hl => lv_i2l C.1 C.2.1 hd hv (k a ha H locs ls hP hl)
theorem v_l2i (C : CF x G Z cc nL Ts own) {y : Int64} {v : Int32} (hv : y.toInt32 = v) (hd : decode cc pc = .ok (.l2i, 1))
    (k : VK x G Z cs nL Q J (pc + 1) lv (.int v :: st) μ o f) : VK x G Z cs nL Q J pc lv (.long y :: st) μ o f :=
  fun a ha H locs ls hP hl => lv_l2i C.1 C.2.1 hd hv (k a ha H locs ls hP hl)
theorem v_i2b (C : CF x G Z cc nL Ts own) {y v : Int32} (hv : y.toInt8.toInt32 = v) (hd : decode cc pc = .ok (.i2b, 1))
    (k : VK x G Z cs nL Q J (pc + 1) lv (.int v :: st) μ o f) : VK x G Z cs nL Q J pc lv (.int y :: st) μ o f :=
  fun a ha H locs ls hP hl => lv_i2b C.1 C.2.1 hd hv (k a ha H locs ls hP hl)
theorem v_i2s (C : CF x G Z cc nL Ts own) {y v : Int32} (hv : y.toInt16.toInt32 = v) (hd : decode cc pc = .ok (.i2s, 1))
    (k : VK x G Z cs nL Q J (pc + 1) lv (.int v :: st) μ o f) : VK x G Z cs nL Q J pc lv (.int y :: st) μ o f :=
  fun a ha H locs ls hP hl => lv_i2s C.1 C.2.1 hd hv (k a ha H locs ls hP hl)
theorem v_dup (C : CF x G Z cc nL Ts own) {v : Value} (hv : v.category = 1) (hd : decode cc pc = .ok (.dup, 1))
    (k : VK x G Z cs nL Q J (pc + 1) lv (v :: v :: st) μ o f) : VK x G Z cs nL Q J pc lv (v :: st) μ o f :=
  fun a ha H locs ls hP hl => lv_dup C.1 C.2.1 hd hv (k a ha H locs ls hP hl)
theorem v_dup2 (C : CF x G Z cc nL Ts own) {v w : Value} (hv : v.category = 1) (hw : w.category = 1) (hd : decode cc pc = .ok (.dup2, 1))
    (k : VK x G Z cs nL Q J (pc + 1) lv (v :: w :: v :: w :: st) μ o f) : VK x G Z cs nL Q J pc lv (v :: w :: st) μ o f :=
  fun a ha H locs ls hP hl => lv_dup2_11 C.1 C.2.1 hd hv hw (k a ha H locs ls hP hl)
theorem v_dupx1 (C : CF x G Z cc nL Ts own) {v w : Value} (hv : v.category = 1) (hw : w.category = 1) (hd : decode cc pc = .ok (.dup_x1, 1))
    (k : VK x G Z cs nL Q J (pc + 1) lv (v :: w :: v :: st) μ o f) : VK x G Z cs nL Q J pc lv (v :: w :: st) μ o f :=
  fun a ha H locs ls hP hl => lv_dup_x1 C.1 C.2.1 hd hv hw (k a ha H locs ls hP hl)
theorem v_pop (C : CF x G Z cc nL Ts own) {v : Value} (hv : v.category = 1) (hd : decode cc pc = .ok (.pop, 1))
    (k : VK x G Z cs nL Q J (pc + 1) lv st μ o f) : VK x G Z cs nL Q J pc lv (v :: st) μ o f :=
  fun a ha H locs ls hP hl => lv_pop C.1 C.2.1 hd hv (k a ha H locs ls hP hl)
theorem v_goto (C : CF x G Z cc nL Ts own) {off : Int} {t : Nat} (ht : (pc : Int) + off = (t : Int)) (hd : decode cc pc = .ok (.goto off, 3))
    (k : VK x G Z cs nL Q J t lv st μ o f) : VK x G Z cs nL Q J pc lv st μ o f :=
  fun a ha H locs ls hP hl => lv_goto C.1 C.2.1 hd ht (k a ha H locs ls hP hl)
theorem v_ifeq (C : CF x G Z cc nL Ts own) {y : Int32} {off : Int} {t : Nat} {o1 o2 : Option β} (hd : decode cc pc = .ok (.ifCond .eq off, 3)) (ht : (pc : Int) + off = (t : Int))
    (k1 : VK x G Z cs nL Q J t lv st μ o1 f) (k2 : VK x G Z cs nL Q J (pc + 3) lv st μ o2 f) : VK x G Z cs nL Q J pc lv (.int y :: st) μ (if y = 0 then o1 else o2) f :=
  fun a ha H locs ls hP hl => lv_if_eq C.1 C.2.1 hd ht (fun c => k1 a (by rw [if_pos c] at ha; exact ha) H locs ls hP hl) (fun c => k2 a (by rw [if_neg c] at ha; exact ha) H locs ls hP hl)
theorem v_iceq (C : CF x G Z cc nL Ts own) {y z : Int32} {off : Int} {t : Nat} {o1 o2 : Option β} (hd : decode cc pc = .ok (.if_icmp .eq off, 3)) (ht : (pc : Int) + off = (t : Int))
    (k1 : VK x G Z cs nL Q J t lv st μ o1 f) (k2 : VK x G Z cs nL Q J (pc + 3) lv st μ o2 f) : VK x G Z cs nL Q J pc lv (.int z :: .int y :: st) μ (if y = z then o1 else o2) f :=
  fun a ha H locs ls hP hl => lv_icmp_eq C.1 C.2.1 hd ht (fun c => k1 a (by rw [if_pos c] at ha; exact ha) H locs ls hP hl) (fun c => k2 a (by rw [if_neg c] at ha; exact ha) H locs ls hP hl)
theorem v_ifne (C : CF x G Z cc nL Ts own) {y : Int32} {off : Int} {t : Nat} {o1 o2 : Option β} (hd : decode cc pc = .ok (.ifCond .ne off, 3)) (ht : (pc : Int) + off = (t : Int))
    (k1 : VK x G Z cs nL Q J t lv st μ o1 f) (k2 : VK x G Z cs nL Q J (pc + 3) lv st μ o2 f) : VK x G Z cs nL Q J pc lv (.int y :: st) μ (if y = 0 then o2 else o1) f :=
  fun a ha H locs ls hP hl => lv_if_ne C.1 C.2.1 hd ht (fun c => k1 a (by rw [if_neg c] at ha; exact ha) H locs ls hP hl) (fun c => k2 a (by rw [if_pos c] at ha; exact ha) H locs ls hP hl)
theorem v_icne (C : CF x G Z cc nL Ts own) {y z : Int32} {off : Int} {t : Nat} {o1 o2 : Option β} (hd : decode cc pc = .ok (.if_icmp .ne off, 3)) (ht : (pc : Int) + off = (t : Int))
    (k1 : VK x G Z cs nL Q J t lv st μ o1 f) (k2 : VK x G Z cs nL Q J (pc + 3) lv st μ o2 f) : VK x G Z cs nL Q J pc lv (.int z :: .int y :: st) μ (if y = z then o2 else o1) f :=
  fun a ha H locs ls hP hl => lv_icmp_ne C.1 C.2.1 hd ht (fun c => k1 a (by rw [if_neg c] at ha; exact ha) H locs ls hP hl) (fun c => k2 a (by rw [if_pos c] at ha; exact ha) H locs ls hP hl)
theorem v_iflt (C : CF x G Z cc nL Ts own) {y : Int32} {off : Int} {t : Nat} {o1 o2 : Option β} (hd : decode cc pc = .ok (.ifCond .lt off, 3)) (ht : (pc : Int) + off = (t : Int))
    (k1 : VK x G Z cs nL Q J t lv st μ o1 f) (k2 : VK x G Z cs nL Q J (pc + 3) lv st μ o2 f) : VK x G Z cs nL Q J pc lv (.int y :: st) μ (if y < 0 then o1 else o2) f :=
  fun a ha H locs ls hP hl => lv_if_lt C.1 C.2.1 hd ht (fun c => k1 a (by rw [if_pos c] at ha; exact ha) H locs ls hP hl) (fun c => k2 a (by rw [if_neg c] at ha; exact ha) H locs ls hP hl)
theorem v_iclt (C : CF x G Z cc nL Ts own) {y z : Int32} {off : Int} {t : Nat} {o1 o2 : Option β} (hd : decode cc pc = .ok (.if_icmp .lt off, 3)) (ht : (pc : Int) + off = (t : Int))
    (k1 : VK x G Z cs nL Q J t lv st μ o1 f) (k2 : VK x G Z cs nL Q J (pc + 3) lv st μ o2 f) : VK x G Z cs nL Q J pc lv (.int z :: .int y :: st) μ (if y < z then o1 else o2) f :=
  fun a ha H locs ls hP hl => lv_icmp_lt C.1 C.2.1 hd ht (fun c => k1 a (by rw [if_pos c] at ha; exact ha) H locs ls hP hl) (fun c => k2 a (by rw [if_neg c] at ha; exact ha) H locs ls hP hl)
theorem v_ifge (C : CF x G Z cc nL Ts own) {y : Int32} {off : Int} {t : Nat} {o1 o2 : Option β} (hd : decode cc pc = .ok (.ifCond .ge off, 3)) (ht : (pc : Int) + off = (t : Int))
    (k1 : VK x G Z cs nL Q J t lv st μ o1 f) (k2 : VK x G Z cs nL Q J (pc + 3) lv st μ o2 f) : VK x G Z cs nL Q J pc lv (.int y :: st) μ (if 0 ≤ y then o1 else o2) f :=
  fun a ha H locs ls hP hl => lv_if_ge C.1 C.2.1 hd ht (fun c => k1 a (by rw [if_pos c] at ha; exact ha) H locs ls hP hl) (fun c => k2 a (by rw [if_neg c] at ha; exact ha) H locs ls hP hl)
theorem v_icge (C : CF x G Z cc nL Ts own) {y z : Int32} {off : Int} {t : Nat} {o1 o2 : Option β} (hd : decode cc pc = .ok (.if_icmp .ge off, 3)) (ht : (pc : Int) + off = (t : Int))
    (k1 : VK x G Z cs nL Q J t lv st μ o1 f) (k2 : VK x G Z cs nL Q J (pc + 3) lv st μ o2 f) : VK x G Z cs nL Q J pc lv (.int z :: .int y :: st) μ (if z ≤ y then o1 else o2) f :=
  fun a ha H locs ls hP hl => lv_icmp_ge C.1 C.2.1 hd ht (fun c => k1 a (by rw [if_pos c] at ha; exact ha) H locs ls hP hl) (fun c => k2 a (by rw [if_neg c] at ha; exact ha) H locs ls hP hl)
theorem v_ifgt (C : CF x G Z cc nL Ts own) {y : Int32} {off : Int} {t : Nat} {o1 o2 : Option β} (hd : decode cc pc = .ok (.ifCond .gt off, 3)) (ht : (pc : Int) + off = (t : Int))
    (k1 : VK x G Z cs nL Q J t lv st μ o1 f) (k2 : VK x G Z cs nL Q J (pc + 3) lv st μ o2 f) : VK x G Z cs nL Q J pc lv (.int y :: st) μ (if 0 < y then o1 else o2) f :=
  fun a ha H locs ls hP hl => lv_if_gt C.1 C.2.1 hd ht (fun c => k1 a (by rw [if_pos c] at ha; exact ha) H locs ls hP hl) (fun c => k2 a (by rw [if_neg c] at ha; exact ha) H locs ls hP hl)
theorem v_icgt (C : CF x G Z cc nL Ts own) {y z : Int32} {off : Int} {t : Nat} {o1 o2 : Option β} (hd : decode cc pc = .ok (.if_icmp .gt off, 3)) (ht : (pc : Int) + off = (t : Int))
    (k1 : VK x G Z cs nL Q J t lv st μ o1 f) (k2 : VK x G Z cs nL Q J (pc + 3) lv st μ o2 f) : VK x G Z cs nL Q J pc lv (.int z :: .int y :: st) μ (if z < y then o1 else o2) f :=
  fun a ha H locs ls hP hl => lv_icmp_gt C.1 C.2.1 hd ht (fun c => k1 a (by rw [if_pos c] at ha; exact ha) H locs ls hP hl) (fun c => k2 a (by rw [if_neg c] at ha; exact ha) H locs ls hP hl)
theorem v_ifle (C : CF x G Z cc nL Ts own) {y : Int32} {off : Int} {t : Nat} {o1 o2 : Option β} (hd : decode cc pc = .ok (.ifCond .le off, 3)) (ht : (pc : Int) + off = (t : Int))
    (k1 : VK x G Z cs nL Q J t lv st μ o1 f) (k2 : VK x G Z cs nL Q J (pc + 3) lv st μ o2 f) : VK x G Z cs nL Q J pc lv (.int y :: st) μ (if y ≤ 0 then o1 else o2) f :=
  fun a ha H locs ls hP hl => lv_if_le C.1 C.2.1 hd ht (fun c => k1 a (by rw [if_pos c] at ha; exact ha) H locs ls hP hl) (fun c => k2 a (by rw [if_neg c] at ha; exact ha) H locs ls hP hl)
theorem v_icle (C : CF x G Z cc nL Ts own) {y z : Int32} {off : Int} {t : Nat} {o1 o2 : Option β} (hd : decode cc pc = .ok (.if_icmp .le off, 3)) (ht : (pc : Int) + off = (t : Int))
    (k1 : VK x G Z cs nL Q J t lv st μ o1 f) (k2 : VK x G Z cs nL Q J (pc + 3) lv st μ o2 f) : VK x G Z cs nL Q J pc lv (.int z :: .int y :: st) μ (if y ≤ z then o1 else o2) f :=
  fun a ha H locs ls hP hl => lv_icmp_le C.1 C.2.1 hd ht (fun c => k1 a (by rw [if_pos c] at ha; exact ha) H locs ls hP hl) (fun c => k2 a (by rw [if_neg c] at ha; exact ha) H locs ls hP hl)
/-- division, remainder -/
def idv (y z : Int32) : Option Int32 := if z = 0 then none else some (y / z)
def irm (y z : Int32) : Option Int32 := if z = 0 then none else some (y - y / z * z)
theorem v_idiv (C : CF x G Z cc nL Ts own) {y z : Int32} {g : Int32 → Option β} (hd : decode cc pc = .ok (.idiv, 1)) (k : ∀ v, VK x G Z cs nL Q J (pc + 1) lv (.int v :: st) μ (g v) f) : VK x G Z cs nL Q J pc lv (.int z :: .int y :: st) μ ((idv y z).bind g) f := by
  intro a ha H locs ls hP hl
  unfold idv at ha
  by_cases hz : z = 0
  · rw [if_pos hz] at ha
    cases ha
  · rw [if_neg hz] at ha
    exact lv_idiv C.1 C.2.1 hd hz (k _ a ha H locs ls hP hl)
theorem v_irem (C : CF x G Z cc nL Ts own) {y z : Int32} {g : Int32 → Option β} (hd : decode cc pc = .ok (.irem, 1)) (k : ∀ v, VK x G Z cs nL Q J (pc + 1) lv (.int v :: st) μ (g v) f) : VK x G Z cs nL Q J pc lv (.int z :: .int y :: st) μ ((irm y z).bind g) f := by
  intro a ha H locs ls hP hl
  unfold irm at ha
  by_cases hz : z = 0
  · rw [if_pos hz] at ha
    cases ha
  · rw [if_neg hz] at ha
    exact lv_irem C.1 C.2.1 hd hz (k _ a ha H locs ls hP hl)
def inb (i : Int32) (n : Nat) : Bool := !(decide (i < 0)) && !(decide (n ≤ i.toNatClampNeg))
theorem inb_vp {i : Int32} {n : Nat} : inb i n = true ↔ vp_in i n := by
  unfold inb vp_in
  simp
/-- an array's place read; written -/
def ald (Z : ZT) (μ : MT) (k : Nat) (i : Int32) : Option Int32 := if inb i (zl Z k) then some (μ k i.toNatClampNeg) else none
def ast (Z : ZT) (μ : MT) (k : Nat) (i : Int32) (v : Int32) : Option MT := if inb i (zl Z k) then some (u2 μ k i.toNatClampNeg v) else none
def ard (Z : ZT) (k : Nat) (i : Int32) : Option Nat := if inb i (zl Z k) then some (zr Z k i.toNatClampNeg) else none
theorem ald_iff {Z : ZT} {μ : MT} {k : Nat} {i : Int32} {g : Int32 → Option γ} {a : γ} (h : (ald Z μ k i).bind g = some a) : vp_in i (zl Z k) ∧ g (μ k i.toNatClampNeg) = some a := by
  unfold ald at h
  by_cases hi : inb i (zl Z k) = true
  · rw [if_pos hi] at h
    exact ⟨inb_vp.mp hi, h⟩
  · rw [if_neg hi] at h
    cases h
theorem ast_iff {Z : ZT} {μ : MT} {k : Nat} {i v : Int32} {g : MT → Option γ} {a : γ} (h : (ast Z μ k i v).bind g = some a) : vp_in i (zl Z k) ∧ g (u2 μ k i.toNatClampNeg v) = some a := by
  unfold ast at h
  by_cases hi : inb i (zl Z k) = true
  · rw [if_pos hi] at h
    exact ⟨inb_vp.mp hi, h⟩
  · rw [if_neg hi] at h
    cases h
theorem ard_iff {Z : ZT} {k : Nat} {i : Int32} {g : Nat → Option γ} {a : γ} (h : (ard Z k i).bind g = some a) : vp_in i (zl Z k) ∧ g (zr Z k i.toNatClampNeg) = some a := by
  unfold ard at h
  by_cases hi : inb i (zl Z k) = true
  · rw [if_pos hi] at h
    exact ⟨inb_vp.mp hi, h⟩
  · rw [if_neg hi] at h
    cases h
theorem v_iald (C : CF x G Z cc nL Ts own) {k : Nat} {i : Int32} {g : Int32 → Option β} (hk : Oa G Z k) (hd : decode cc pc = .ok (.iaload, 1)) (kk : ∀ v, VK x G Z cs nL Q J (pc + 1) lv (.int v :: st) μ (g v) f) : VK x G Z cs nL Q J pc lv (.int i :: .ref (ga G k) :: st) μ ((ald Z μ k i).bind g) f := by
  intro a ha H locs ls hP hl
  rw [Option.bind_assoc] at ha
  obtain ⟨hi, ha⟩ := ald_iff ha
  obtain ⟨hkk, hk | ⟨h1, h2⟩⟩ := hk
  · exact va_iald C.1 C.2.1 C.2.2.2.2.2.1.1 hP.1 k 0 (by rw [wd_get hk, ce_arr hkk (by decide) (by decide)]) rfl hi hd (kk _ a ha H locs ls hP hl)
  · have hT := C.2.2.2.2.2.2.2.2.2.2 (k - 1000) (by omega)
    have hr := hP.2.2 (k - 1000) (by omega)
    have hL := C.2.2.2.2.2.2.2.2.1.2.2.2 (k - 1000) (by omega)
    rw [show 1000 + (k - 1000) = k by omega] at hT hr hL
    exact va_ti C.1 C.2.1 hT hP.2.1 (by rw [← hL]; exact hi) (v := .int (μ k i.toNatClampNeg)) (by rw [hr]) hd (kk _ a ha H locs ls hP hl)
theorem v_bald (C : CF x G Z cc nL Ts own) {k : Nat} {i : Int32} {g : Int32 → Option β} (hk : Ob G Z k 21) (hd : decode cc pc = .ok (.baload, 1)) (kk : ∀ v, VK x G Z cs nL Q J (pc + 1) lv (.int v :: st) μ (g v) f) : VK x G Z cs nL Q J pc lv (.int i :: .ref (ga G k) :: st) μ ((ald Z μ k i).bind g) f := by
  intro a ha H locs ls hP hl
  rw [Option.bind_assoc] at ha
  obtain ⟨hi, ha⟩ := ald_iff ha
  exact va_bald C.1 C.2.1 C.2.2.2.2.2.1.1 hP.1 k 1 (by rw [wd_get hk.2, ce_arr hk.1 (by decide) (by decide)]) rfl hi hd (kk _ a ha H locs ls hP hl)
theorem v_zald (C : CF x G Z cc nL Ts own) {k : Nat} {i : Int32} {g : Int32 → Option β} (hk : Ob G Z k 22) (hd : decode cc pc = .ok (.baload, 1)) (kk : ∀ v, VK x G Z cs nL Q J (pc + 1) lv (.int v :: st) μ (g v) f) : VK x G Z cs nL Q J pc lv (.int i :: .ref (ga G k) :: st) μ ((ald Z μ k i).bind g) f := by
  intro a ha H locs ls hP hl
  rw [Option.bind_assoc] at ha
  obtain ⟨hi, ha⟩ := ald_iff ha
  exact va_zald C.1 C.2.1 C.2.2.2.2.2.1.1 hP.1 k 2 (by rw [wd_get hk.2, ce_arr hk.1 (by decide) (by decide)]) rfl hi hd (kk _ a ha H locs ls hP hl)
theorem v_aald (C : CF x G Z cc nL Ts own) {k : Nat} {i : Int32} {g : Nat → Option β} (hk : Ob G Z k 24) (hd : decode cc pc = .ok (.aaload, 1)) (kk : ∀ v, Ob G Z v 2 → VK x G Z cs nL Q J (pc + 1) lv (.ref (ga G v) :: st) μ (g v) f) : VK x G Z cs nL Q J pc lv (.int i :: .ref (ga G k) :: st) μ ((ard Z k i).bind g) f := by
  intro a ha H locs ls hP hl
  rw [Option.bind_assoc] at ha
  obtain ⟨hi, ha⟩ := ard_iff ha
  have hlt : i.toNatClampNeg < zl Z k := Nat.not_le.mp fun q => hi (Or.inr q)
  exact va_aldq (f := fun j => some (ga G (zr Z k j))) C.1 C.2.1 C.2.2.2.2.2.1.1 hP.1 k 4 (by rw [wd_get hk.2, ce_ref hk.1 (by decide)]) rfl hi hd (kk _ (C.2.2.2.2.2.2.2.2.1.2.2.1 k _ hk hlt) a ha H locs ls hP hl)
theorem v_aaldI (C : CF x G Z cc nL Ts own) {k : Nat} {i : Int32} {g : Nat → Option β} (hk : Ob G Z k 23) (hd : decode cc pc = .ok (.aaload, 1)) (kk : ∀ v, Ob G Z v 20 → VK x G Z cs nL Q J (pc + 1) lv (.ref (ga G v) :: st) μ (g v) f) : VK x G Z cs nL Q J pc lv (.int i :: .ref (ga G k) :: st) μ ((ard Z k i).bind g) f := by
  intro a ha H locs ls hP hl
  rw [Option.bind_assoc] at ha
  obtain ⟨hi, ha⟩ := ard_iff ha
  have hlt : i.toNatClampNeg < zl Z k := Nat.not_le.mp fun q => hi (Or.inr q)
  have hw : va_at (gD G) vwCl (ga G k, .inl (gc G 23, zl Z k, .inr (.inr (.inr (.inr (fun j => some (ga G (zr Z k j)))))))) H := hP.1 k _ (by rw [wd_get hk.2, ce_ref hk.1 (by decide)])
  exact W.aald (v := .ref (ga G (zr Z k i.toNatClampNeg))) (ty := .array .int) C.1 C.2.1 hw ((C.2.2.2.2.2.1.1.2 3 _ rfl).1 (zl Z k) (fun j => va_rf (some (ga G (zr Z k j))))) rfl (fun q => by cases q) (by show ¬ (i < 0 ∨ (arrV _ _ _).slots.size ≤ _); rw [arrV_size]; exact hi) (by show (arrV _ _ _).slots[_]? = _; rw [arrV_read _ _ hlt]; rfl) rfl rfl hd (kk _ (C.2.2.2.2.2.2.2.2.1.2.1 k _ hk hlt) a ha H locs ls hP hl)
theorem v_iast (C : CF x G Z cc nL Ts own) {k : Nat} {i v : Int32} {g : MT → Option β} (hk : Ob G Z k 20) (hd : decode cc pc = .ok (.iastore, 1)) (kk : ∀ ν, VK x G Z cs nL Q J (pc + 1) lv st ν (g ν) f) : VK x G Z cs nL Q J pc lv (.int v :: .int i :: .ref (ga G k) :: st) μ ((ast Z μ k i v).bind g) f := by
  intro a ha H locs ls hP hl
  rw [Option.bind_assoc] at ha
  obtain ⟨hi, ha⟩ := ast_iff ha
  have hG := C.2.2.2.2.2.2.2.1
  refine va_iast C.1 C.2.1 C.2.2.2.2.2.1.1 hP.1 (hG.vd Z μ) hP.2.1 k 0 (by rw [wd_get hk.2, ce_arr hk.1 (by decide) (by decide)]) rfl hi hd (fun H1 locs1 hP1 _ hS1 => ?_)
  have e := wd_set (ν := u2 μ k i.toNatClampNeg v) hk.2 (by rw [ce_arr hk.1 (by decide) (by decide), u2_s]) (fun q hq => u2_n hq)
  rw [e] at hP1
  exact kk _ a ha H1 locs1 ls ⟨hP1, hS1, hP.2.2.u2 (fun q hq => u2_n (by have := hk.2; have := hG.2.2; omega))⟩ hl
theorem v_bast (C : CF x G Z cc nL Ts own) {k : Nat} {i v : Int32} {g : MT → Option β} (hk : Ob G Z k 21) (hd : decode cc pc = .ok (.bastore, 1)) (kk : ∀ ν, VK x G Z cs nL Q J (pc + 1) lv st ν (g ν) f) : VK x G Z cs nL Q J pc lv (.int v :: .int i :: .ref (ga G k) :: st) μ ((ast Z μ k i (vp_nar .byte v)).bind g) f := by
  intro a ha H locs ls hP hl
  rw [Option.bind_assoc] at ha
  obtain ⟨hi, ha⟩ := ast_iff ha
  have hG := C.2.2.2.2.2.2.2.1
  refine va_bast C.1 C.2.1 C.2.2.2.2.2.1.1 hP.1 (hG.vd Z μ) hP.2.1 k 1 (by rw [wd_get hk.2, ce_arr hk.1 (by decide) (by decide)]) rfl hi hd (fun H1 locs1 hP1 _ hS1 => ?_)
  have e := wd_set (ν := u2 μ k i.toNatClampNeg (vp_nar .byte v)) hk.2 (by rw [ce_arr hk.1 (by decide) (by decide), u2_s]) (fun q hq => u2_n hq)
  rw [e] at hP1
  exact kk _ a ha H1 locs1 ls ⟨hP1, hS1, hP.2.2.u2 (fun q hq => u2_n (by have := hk.2; have := hG.2.2; omega))⟩ hl
theorem v_zast (C : CF x G Z cc nL Ts own) {k : Nat} {i v : Int32} {g : MT → Option β} (hk : Ob G Z k 22) (hd : decode cc pc = .ok (.bastore, 1)) (kk : ∀ ν, VK x G Z cs nL Q J (pc + 1) lv st ν (g ν) f) : VK x G Z cs nL Q J pc lv (.int v :: .int i :: .ref (ga G k) :: st) μ ((ast Z μ k i (vp_nar .boolean v)).bind g) f := by
  intro a ha H locs ls hP hl
  rw [Option.bind_assoc] at ha
  obtain ⟨hi, ha⟩ := ast_iff ha
  have hG := C.2.2.2.2.2.2.2.1
  refine va_zast C.1 C.2.1 C.2.2.2.2.2.1.1 hP.1 (hG.vd Z μ) hP.2.1 k 2 (by rw [wd_get hk.2, ce_arr hk.1 (by decide) (by decide)]) rfl hi hd (fun H1 locs1 hP1 _ hS1 => ?_)
  have e := wd_set (ν := u2 μ k i.toNatClampNeg (vp_nar .boolean v)) hk.2 (by rw [ce_arr hk.1 (by decide) (by decide), u2_s]) (fun q hq => u2_n hq)
  rw [e] at hP1
  exact kk _ a ha H1 locs1 ls ⟨hP1, hS1, hP.2.2.u2 (fun q hq => u2_n (by have := hk.2; have := hG.2.2; omega))⟩ hl
theorem v_alen (C : CF x G Z cc nL Ts own) {k : Nat} (hk : Ob G Z k 20) (hd : decode cc pc = .ok (.arraylength, 1)) (kk : VK x G Z cs nL Q J (pc + 1) lv (.int (Int32.ofNat (zl Z k)) :: st) μ o f) : VK x G Z cs nL Q J pc lv (.ref (ga G k) :: st) μ o f :=
  fun a ha H locs ls hP hl => va_alen C.1 C.2.1 C.2.2.2.2.2.1.1 hP.1 k 0 (by rw [wd_get hk.2, ce_arr hk.1 (by decide) (by decide)]) rfl rfl hd (kk a ha H locs ls hP hl)
/-- a field: its class's table, its link -/
def FLk (Ts : List Cond) (own : String) (index c j : Nat) : Prop := ∃ (N : String) (T : u_T) (n : Nat), vwCl[c]? = some (N, T, n) ∧ j < n ∧ (∀ w ∈ u_ws N T n, w ∈ Ts) ∧ c < 20 ∧ Cond.fieldLink own index (T j).1 (T j).2.1 (T j).2.2.1 ∈ Ts
/-- a nest mate's field -/
def FLn (Ts : List Cond) (own : String) (index c j : Nat) : Prop := ∃ (N : String) (T : u_T) (n : Nat) (host : String), vwCl[c]? = some (N, T, n) ∧ j < n ∧ (∀ w ∈ u_ws N T n, w ∈ Ts) ∧ c < 20 ∧ Cond.fieldLinkNest own index (T j).1 (T j).2.1 (T j).2.2.1 host ∈ nestW
theorem nfl_of {c n : Nat} {N : String} {T : u_T} (h : vwCl[c]? = some (N, T, n)) : nfl c = n := by
  unfold nfl
  rw [h]
theorem v_get (C : CF x G Z cc nL Ts own) {k c j index : Nat} (hF : FLk Ts own index c j) (hk : Ob G Z k c) (hd : decode cc pc = .ok (.getfield index, 3)) (kk : VK x G Z cs nL Q J (pc + 3) lv (fv G Z μ k j :: st) μ o f) : VK x G Z cs nL Q J pc lv (.ref (ga G k) :: st) μ o f := by
  intro a ha H locs ls hP hl
  obtain ⟨N, T, n, h1, h2, h3, h4, h5⟩ := hF
  have hn := nfl_of h1
  exact va_get C.1 C.2.1 C.2.2.2.2.1 h3 C.2.2.2.1 C.2.2.2.2.2.1.1 hP.1 k (by rw [wd_get hk.2, ce_obj hk.1 h4]) h1 j h2 (C.2.2.2.2.1 _ h5) (fun _ h9 => h9) (fs_get (by rw [hn]; exact h2)) hd (kk a ha H locs ls hP hl)
theorem v_getN (C : CF x G Z cc nL Ts own) {k c j index : Nat} (hF : FLn Ts own index c j) (hk : Ob G Z k c) (hd : decode cc pc = .ok (.getfield index, 3)) (kk : VK x G Z cs nL Q J (pc + 3) lv (fv G Z μ k j :: st) μ o f) : VK x G Z cs nL Q J pc lv (.ref (ga G k) :: st) μ o f := by
  intro a ha H locs ls hP hl
  obtain ⟨N, T, n, host, h1, h2, h3, h4, h5⟩ := hF
  have hn := nfl_of h1
  exact va_getN C.1 C.2.1 C.2.2.2.2.1 h3 C.2.2.2.1 C.2.2.2.2.2.1.1 hP.1 k (by rw [wd_get hk.2, ce_obj hk.1 h4]) h1 j h2 (va_Nw.use rfl (C.2.2.2.2.2.1.2.1 _ h5)) (fun _ h9 => h9) (fs_get (by rw [hn]; exact h2)) hd (kk a ha H locs ls hP hl)
theorem fv_i {k c j : Nat} (hk : Ob G Z k c) (h : rk c j = 0) : fv G Z μ k j = .int (μ k j) := by
  unfold fv
  rw [hk.1, if_pos h]
theorem fv_r {k c j : Nat} (hk : Ob G Z k c) (h : rk c j = 1) : fv G Z μ k j = .ref (ga G (zr Z k j)) := by
  unfold fv
  rw [hk.1, if_neg (by rw [h]; decide), if_pos h]
theorem fv_m {k c j : Nat} (hk : Ob G Z k c) (h : rk c j = 2) : fv G Z μ k j = .ref (ga G (μ k j).toNatClampNeg) := by
  unfold fv
  rw [hk.1, if_neg (by rw [h]; decide), if_neg (by rw [h]; decide)]
theorem v_geti (C : CF x G Z cc nL Ts own) {k c j index : Nat} (hF : FLk Ts own index c j) (hr : rk c j = 0) (hk : Ob G Z k c) (hd : decode cc pc = .ok (.getfield index, 3)) (kk : VK x G Z cs nL Q J (pc + 3) lv (.int (μ k j) :: st) μ o f) : VK x G Z cs nL Q J pc lv (.ref (ga G k) :: st) μ o f :=
  v_get C hF hk hd (by rw [fv_i hk hr]; exact kk)
theorem v_getiN (C : CF x G Z cc nL Ts own) {k c j index : Nat} (hF : FLn Ts own index c j) (hr : rk c j = 0) (hk : Ob G Z k c) (hd : decode cc pc = .ok (.getfield index, 3)) (kk : VK x G Z cs nL Q J (pc + 3) lv (.int (μ k j) :: st) μ o f) : VK x G Z cs nL Q J pc lv (.ref (ga G k) :: st) μ o f :=
  v_getN C hF hk hd (by rw [fv_i hk hr]; exact kk)
theorem FLk.lt {index c j : Nat} (hF : FLk Ts own index c j) : c < 20 ∧ j < nfl c := by
  obtain ⟨N, T, n, h1, h2, h3, h4, h5⟩ := hF
  exact ⟨h4, by rw [nfl_of h1]; exact h2⟩
theorem FLn.lt {index c j : Nat} (hF : FLn Ts own index c j) : c < 20 ∧ j < nfl c := by
  obtain ⟨N, T, n, host, h1, h2, h3, h4, h5⟩ := hF
  exact ⟨h4, by rw [nfl_of h1]; exact h2⟩
theorem v_getr (C : CF x G Z cc nL Ts own) {k c j index t : Nat} (hF : FLk Ts own index c j) (hr : rk c j = 1) (ht : tgt c j = t) (hk : Ob G Z k c) (hd : decode cc pc = .ok (.getfield index, 3)) (kk : Ob G Z (zr Z k j) t → VK x G Z cs nL Q J (pc + 3) lv (.ref (ga G (zr Z k j)) :: st) μ o f) : VK x G Z cs nL Q J pc lv (.ref (ga G k) :: st) μ o f :=
  v_get C hF hk hd (by rw [fv_r hk hr]; exact kk (ht ▸ C.2.2.2.2.2.2.2.2.1.1 c j k hF.lt.1 hr hF.lt.2 hk))
theorem v_getrN (C : CF x G Z cc nL Ts own) {k c j index t : Nat} (hF : FLn Ts own index c j) (hr : rk c j = 1) (ht : tgt c j = t) (hk : Ob G Z k c) (hd : decode cc pc = .ok (.getfield index, 3)) (kk : Ob G Z (zr Z k j) t → VK x G Z cs nL Q J (pc + 3) lv (.ref (ga G (zr Z k j)) :: st) μ o f) : VK x G Z cs nL Q J pc lv (.ref (ga G k) :: st) μ o f :=
  v_getN C hF hk hd (by rw [fv_r hk hr]; exact kk (ht ▸ C.2.2.2.2.2.2.2.2.1.1 c j k hF.lt.1 hr hF.lt.2 hk))
/-- a field whose cell changes: the number that stands there must be a cell of the kind -/
def mrd (Z : ZT) (n t : Nat) (v : Int32) : Option Nat := if zk Z v.toNatClampNeg = t ∧ v.toNatClampNeg < n then some v.toNatClampNeg else none
theorem v_getm (C : CF x G Z cc nL Ts own) {k c j index t : Nat} {g : Nat → Option β} (hF : FLk Ts own index c j) (hr : rk c j = 2) (hk : Ob G Z k c) (hd : decode cc pc = .ok (.getfield index, 3)) (kk : ∀ q, Ob G Z q t → VK x G Z cs nL Q J (pc + 3) lv (.ref (ga G q) :: st) μ (g q) f) : VK x G Z cs nL Q J pc lv (.ref (ga G k) :: st) μ ((mrd Z (gn G) t (μ k j)).bind g) f := by
  intro a ha
  unfold mrd at ha
  by_cases h : zk Z (μ k j).toNatClampNeg = t ∧ (μ k j).toNatClampNeg < gn G
  · rw [if_pos h] at ha
    exact v_get C hF hk hd (by rw [fv_m hk hr]; exact kk _ h) a ha
  · rw [if_neg h] at ha
    cases ha
/-- a field written: its type's values -/
def FPk (Ts : List Cond) (own : String) (index c j : Nat) : Prop := FLk Ts own index c j ∧ ∃ (N : String) (T : u_T) (n : Nat) (ty : Nat → FieldType), vwCl[c]? = some (N, T, n) ∧ (∀ k, k < n → parseFieldDescriptor (T k).2.2.1 = some (ty k)) ∧ (∀ a, a < n → ∀ b, b < n → a ≠ b → (T a).2.1 ≠ (T b).2.1) ∧ (T j).2.2.2 = false ∧ ty j = fty c j
def FPn (Ts : List Cond) (own : String) (index c j : Nat) : Prop := FLn Ts own index c j ∧ ∃ (N : String) (T : u_T) (n : Nat) (ty : Nat → FieldType), vwCl[c]? = some (N, T, n) ∧ (∀ k, k < n → parseFieldDescriptor (T k).2.2.1 = some (ty k)) ∧ (∀ a, a < n → ∀ b, b < n → a ≠ b → (T a).2.1 ≠ (T b).2.1) ∧ (T j).2.2.2 = false ∧ ty j = fty c j
theorem v_put (C : CF x G Z cc nL Ts own) {k c j index : Nat} {v : Value} {y : Int32} (hF : FPk Ts own index c j) (hv : v = fv G Z (u2 μ k j y) k j) (hn : narrow (fty c j) v = v) (hf : fits (fty c j) v = true) (hk : Ob G Z k c) (hd : decode cc pc = .ok (.putfield index, 3)) (kk : VK x G Z cs nL Q J (pc + 3) lv st (u2 μ k j y) o f) : VK x G Z cs nL Q J pc lv (v :: .ref (ga G k) :: st) μ o f := by
  intro a ha H locs ls hP hl
  obtain ⟨⟨N, T, n, h1, h2, h3, h4, h5⟩, N', T', n', ty, q1, q2, q3, q4, q5⟩ := hF
  cases h1.symm.trans q1
  have hn' := nfl_of h1
  have hG := C.2.2.2.2.2.2.2.1
  refine va_put C.1 C.2.1 C.2.2.2.2.1 h3 ty q2 q3 C.2.2.2.1 C.2.2.2.2.2.1.1 hP.1 (hG.vd Z μ) hP.2.1 k (by rw [wd_get hk.2, ce_obj hk.1 h4]) h1 j h2 (C.2.2.2.2.1 _ h5) (fun _ h9 => h9) q4 (q2 j h2) (by rw [q5]; exact hn) (by rw [q5]; exact hf) (by rw [List.length_map, List.length_range, hn']; exact h2) hd (fun H1 locs1 hP1 _ hS1 => ?_)
  rw [fs_set hk.1 hv] at hP1
  have e := wd_set (ν := u2 μ k j y) hk.2 (ce_obj hk.1 h4) (fun q hq => u2_n hq)
  rw [e] at hP1
  exact kk a ha H1 locs1 ls ⟨hP1, hS1, hP.2.2.u2 (fun q hq => u2_n (by have := hk.2; have := hG.2.2; omega))⟩ hl
theorem v_putN (C : CF x G Z cc nL Ts own) {k c j index : Nat} {v : Value} {y : Int32} (hF : FPn Ts own index c j) (hv : v = fv G Z (u2 μ k j y) k j) (hn : narrow (fty c j) v = v) (hf : fits (fty c j) v = true) (hk : Ob G Z k c) (hd : decode cc pc = .ok (.putfield index, 3)) (kk : VK x G Z cs nL Q J (pc + 3) lv st (u2 μ k j y) o f) : VK x G Z cs nL Q J pc lv (v :: .ref (ga G k) :: st) μ o f := by
  intro a ha H locs ls hP hl
  obtain ⟨⟨N, T, n, host, h1, h2, h3, h4, h5⟩, N', T', n', ty, q1, q2, q3, q4, q5⟩ := hF
  cases h1.symm.trans q1
  have hn' := nfl_of h1
  have hG := C.2.2.2.2.2.2.2.1
  refine va_putN C.1 C.2.1 C.2.2.2.2.1 h3 ty q2 q3 C.2.2.2.1 C.2.2.2.2.2.1.1 hP.1 (hG.vd Z μ) hP.2.1 k (by rw [wd_get hk.2, ce_obj hk.1 h4]) h1 j h2 (va_Nw.use rfl (C.2.2.2.2.2.1.2.1 _ h5)) (fun _ h9 => h9) q4 (q2 j h2) (by rw [q5]; exact hn) (by rw [q5]; exact hf) (by rw [List.length_map, List.length_range, hn']; exact h2) hd (fun H1 locs1 hP1 _ hS1 => ?_)
  rw [fs_set hk.1 hv] at hP1
  have e := wd_set (ν := u2 μ k j y) hk.2 (ce_obj hk.1 h4) (fun q hq => u2_n hq)
  rw [e] at hP1
  exact kk a ha H1 locs1 ls ⟨hP1, hS1, hP.2.2.u2 (fun q hq => u2_n (by have := hk.2; have := hG.2.2; omega))⟩ hl
theorem u2_at {k j : Nat} {y : Int32} : u2 μ k j y k j = y := by simp [u2, upd]
theorem v_puti (C : CF x G Z cc nL Ts own) {k c j index : Nat} {y : Int32} {g : MT → Option β} (hF : FPk Ts own index c j) (hr : rk c j = 0) (ht : fty c j = .int) (hk : Ob G Z k c) (hd : decode cc pc = .ok (.putfield index, 3)) (kk : ∀ ν, VK x G Z cs nL Q J (pc + 3) lv st ν (g ν) f) : VK x G Z cs nL Q J pc lv (.int y :: .ref (ga G k) :: st) μ ((some (u2 μ k j y)).bind g) f :=
  v_put C hF (by rw [fv_i hk hr, u2_at]) (by rw [ht]; rfl) (by rw [ht]; rfl) hk hd (kk _)
theorem v_putiN (C : CF x G Z cc nL Ts own) {k c j index : Nat} {y : Int32} {g : MT → Option β} (hF : FPn Ts own index c j) (hr : rk c j = 0) (ht : fty c j = .int) (hk : Ob G Z k c) (hd : decode cc pc = .ok (.putfield index, 3)) (kk : ∀ ν, VK x G Z cs nL Q J (pc + 3) lv st ν (g ν) f) : VK x G Z cs nL Q J pc lv (.int y :: .ref (ga G k) :: st) μ ((some (u2 μ k j y)).bind g) f :=
  v_putN C hF (by rw [fv_i hk hr, u2_at]) (by rw [ht]; rfl) (by rw [ht]; rfl) hk hd (kk _)
/-- a boolean: 0 or 1 -/
def bz (y : Int32) : Option Int32 := if y = 0 ∨ y = 1 then some y else none
theorem bz_iff {y : Int32} {g : Int32 → Option γ} {a : γ} (h : (bz y).bind g = some a) : (y = 0 ∨ y = 1) ∧ g y = some a := by
  unfold bz at h
  by_cases hi : y = 0 ∨ y = 1
  · rw [if_pos hi] at h
    exact ⟨hi, h⟩
  · rw [if_neg hi] at h
    cases h
theorem v_putz (C : CF x G Z cc nL Ts own) {k c j index : Nat} {y : Int32} {g : MT → Option β} (hy : y = 0 ∨ y = 1) (hF : FPk Ts own index c j) (hr : rk c j = 0) (ht : fty c j = .boolean) (hk : Ob G Z k c) (hd : decode cc pc = .ok (.putfield index, 3)) (kk : ∀ ν, VK x G Z cs nL Q J (pc + 3) lv st ν (g ν) f) : VK x G Z cs nL Q J pc lv (.int y :: .ref (ga G k) :: st) μ ((some (u2 μ k j y)).bind g) f :=
  v_put C hF (by rw [fv_i hk hr, u2_at]) (by rw [ht]; rcases hy with rfl | rfl <;> rfl) (by rw [ht]; rcases hy with rfl | rfl <;> rfl) hk hd (kk _)
theorem v_putm (C : CF x G Z cc nL Ts own) {k c j index q : Nat} {N : String} {g : MT → Option β} (hF : FPk Ts own index c j) (hr : rk c j = 2) (ht : fty c j = .object N) (hq : q < 1000) (hk : Ob G Z k c) (hd : decode cc pc = .ok (.putfield index, 3)) (kk : ∀ ν, VK x G Z cs nL Q J (pc + 3) lv st ν (g ν) f) : VK x G Z cs nL Q J pc lv (.ref (ga G q) :: .ref (ga G k) :: st) μ ((some (u2 μ k j (Int32.ofNat q))).bind g) f :=
  v_put C hF (by rw [fv_m hk hr, u2_at]; show _ = Value.ref (ga G (nI q).toNatClampNeg); rw [nI_clamp (by omega)]) (by rw [ht]; rfl) (by rw [ht]; rfl) hk hd (kk _)
end VRULES
end
section
/-! ===== methods and calls over the plain memory ===== -/
abbrev rmd (d : Nat) : Room := { frames := d, cells := 0, slots := 0, locals := 64 * d }
def PZ (G : GT) (Z : ZT) (av : List Value) (μ : MT) : Array Value → State → Prop := va_Pc av (fun U => va_P (gD G) vwCl (wd G Z μ) U.heap ∧ KS G U ∧ KH G U U.heap ∧ KT G U U.heap ∧ ROk G μ)
def QZ (G : GT) (Z : ZT) (rv : Option Value) (ν : MT) : Array Value → State → Outcome → State → Prop := fun _ st oc t => oc = .returned rv ∧ va_P (gD G) vwCl (wd G Z ν) t.heap ∧ ROk G ν ∧ va_F (gA G) st t
def MZ (l : Launch) (G : GT) (Z : ZT) (y : MethodName) (c : ByteArray) (n : Nat) (r : Option FieldType) (d : Nat) (av : List Value) (μ : MT) (rv : Option Value) (ν : MT) : Prop := Met l y (Cond.code y c n r :: BG) (rmd d) (PZ G Z av μ) (QZ G Z rv ν) 0 0 (gA G)
def QM (x : CX) (G : GT) (Z : ZT) : Option Value → MT → State → Prop := fun rv ν => MQ (xb x) (QZ G Z rv ν) (xa x) (xs x) 0 0 (gA G)
/-- the room that is left -/
def RO (x : CX) (cs : Nat × Nat) (d : Nat) : Prop := d ≤ (xR x).frames ∧ 64 * d ≤ (xR x).locals ∧ cs.1 ≤ (xR x).cells ∧ cs.2 ≤ (xR x).slots
def isNest : Cond → Bool
  | .fieldLinkNest .. => true
  | .methodLinkNest .. => true
  | _ => false
theorem nest_all : nestW.all isNest = true := by decide +kernel
theorem nest_warm {w : Cond} (hw : isNest w = true) {s U : State} (hW : s.WarmedH U.vm) (h : va_Nw w s) : va_Nw w U := by
  cases w <;> first | exact va_Nw.warmF hW h | exact va_Nw.warmM hW h | cases hw
theorem nest_same {w : Cond} (hw : isNest w = true) {s U : State} (hv : s.vm = U.vm) (h : va_Nw w s) : va_Nw w U := by
  cases w <;> first | exact va_Nw.same rfl hv h | cases hw
theorem KS.warm {G : GT} {s U : State} (hW : s.WarmedH U.vm) (h : KS G s) : KS G U :=
  ⟨va_K.moved hW.alike h.1, fun w hw => nest_warm (List.all_eq_true.mp nest_all w hw) hW (h.2.1 w hw), fun i hi => (h.2.2 i hi).warm hW⟩
theorem KS.same {G : GT} {s U : State} (hv : U.vm = s.vm) (h : KS G s) : KS G U :=
  ⟨va_K.moved (by rw [hv]; exact Vm.Alike.refl _) h.1, fun w hw => nest_same (List.all_eq_true.mp nest_all w hw) hv.symm (h.2.1 w hw), fun i hi => vk_R.same hv (h.2.2 i hi)⟩
theorem KH.to {G : GT} {s U : State} {H H1 : Heap} (hvm : s.vm.Alike U.vm) (hq : ∀ a : Nat, a < H.size → ¬ gA G a → H1[a]? = H[a]?) (h : KH G s H) : KH G U H1 :=
  ⟨(h.1.moved hvm).kept hq, (h.2.1.moved hvm).kept hq, (h.2.2.1.moved hvm).kept hq, (h.2.2.2.1.moved hvm).kept hq, (h.2.2.2.2.1.moved hvm).kept hq, (h.2.2.2.2.2.moved hvm).kept hq⟩
theorem KT.to {G : GT} {s U : State} {H H1 : Heap} (hvm : s.vm.Alike U.vm) (hq : ∀ a : Nat, a < H.size → ¬ gA G a → H1[a]? = H[a]?) (h : KT G s H) : KT G U H1 :=
  fun i hi => ((h i hi).moved hvm).kept hq
theorem PZ.blind {G : GT} {Z : ZT} {av : List Value} {μ : MT} : FrameBlind (PZ G Z av μ) := by
  intro a U g mk h
  obtain ⟨h1, h2, h3, h4, h5, h6⟩ := h
  exact ⟨h1, h2, KS.same (s := U) (U := U.calling g mk a) rfl h3, KH.to (U := U.calling g mk a) (Vm.Alike.refl U.vm) (fun _ _ _ => rfl) h4, KT.to (U := U.calling g mk a) (Vm.Alike.refl U.vm) (fun _ _ _ => rfl) h5, h6⟩
section VCALLS
variable {α β γ : Type} {x : CX} {G : GT} {Z : ZT} {cs : Nat × Nat} {nL : Nat} {Q : Option Value → MT → State → Prop} {J : α → Option Value × MT} {pc : Nat} {lv : List (Nat × Value)} {st : List Value} {μ : MT} {o : Option β} {f : β → Option α} {cc : ByteArray} {Ts : List Cond} {own : String}
/-- a method's contract out of its walk -/
theorem v_met {l : Launch} {y : MethodName} {nL : Nat} {r : Option FieldType} {d : Nat} {av : List Value} {o : Option α} {a : α} (hG : DA G) (hZ : WT G Z) (hy : plainName y.cls = true) (hn : (lg_sl av).length ≤ nL) (ho : o = some a)
    (h : ∀ x : CX, CF x G Z cc nL BG y.cls → RO x (0, 0) d → x.2.1 = l → (xM x).sig.returnType = r → VK x G Z (0, 0) nL (QM x G Z) J 0 (lv_args 0 av) [] μ o some) : MZ l G Z y cc nL r d av μ (J a).1 (J a).2 := by
  refine Met.ofW (cc := cc) (maxL := nL) (ret := r) hy rfl ?_
  intro p e s m args below meth c s₁ B hml hv
  obtain ⟨rfl, hP, hKS, hKH, hKT, hRO⟩ := hv
  have hts := atoms_spec (ws := Cond.code y cc nL r :: BG) B.pre
  have hown : s.vm.findClass y.cls = some m.cls := findClass_of_methodNamed B.named
  have hl := lv_entry av (n := nL) hn
  rw [lg_entry_eq]
  exact h (p, l, e, (headSpec (Cond.code y cc nL r :: BG) (rmd d)).room, s, m, av.toArray, below, meth, c) ⟨B.exec, B.bytes, hml, hown, fun w hw => hts w (List.mem_cons_of_mem _ hw), hKS, hKH, hG, hZ, B.notSynchronized, hKT⟩ ⟨Nat.le_refl _, Nat.le_refl _, Nat.le_refl _, Nat.le_refl _⟩ rfl B.returns a (by rw [ob_r]; exact ho) s.heap [] _ ⟨hP, va_S.rf, hRO⟩ hl
theorem v_iret (C : CF x G Z cc nL Ts own) {v : Int32} (hr : (xM x).sig.returnType = some .int) (hd : decode cc pc = .ok (.ireturn, 1)) (ho : ∀ a, o.bind f = some a → J a = (some (.int v), μ)) : VK x G Z (0, 0) nL (QM x G Z) J pc lv [.int v] μ o f := by
  intro a ha H locs ls hP hl
  rw [ho a ha]
  exact W.iret C.1 C.2.1 hr (fun t ht hW => ⟨rfl, by rw [ht]; exact hP.1, hP.2.2, hP.2.1.F ht⟩) hP.2.1.2.2 hd (hlocks := C.2.2.2.2.2.2.2.2.2.1)
theorem v_lret (C : CF x G Z cc nL Ts own) {v : Int64} (hr : (xM x).sig.returnType = some .long) (hd : decode cc pc = .ok (.lreturn, 1)) (ho : ∀ a, o.bind f = some a → J a = (some (.long v), μ)) : VK x G Z (0, 0) nL (QM x G Z) J pc lv [.long v] μ o f := by
  intro a ha H locs ls hP hl
  rw [ho a ha]
  exact W.lret C.1 C.2.1 hr (fun t ht hW => ⟨rfl, by rw [ht]; exact hP.1, hP.2.2, hP.2.1.F ht⟩) hP.2.1.2.2 hd (hlocks := C.2.2.2.2.2.2.2.2.2.1)
theorem v_zret (C : CF x G Z cc nL Ts own) {v : Int32} (hv : v = 0 ∨ v = 1) (hr : (xM x).sig.returnType = some .boolean) (hd : decode cc pc = .ok (.ireturn, 1)) (ho : ∀ a, o.bind f = some a → J a = (some (.int v), μ)) : VK x G Z (0, 0) nL (QM x G Z) J pc lv [.int v] μ o f := by
  intro a ha H locs ls hP hl
  rw [ho a ha]
  exact W.zret C.1 C.2.1 hr (by rcases hv with rfl | rfl <;> rfl) (fun t ht hW => ⟨rfl, by rw [ht]; exact hP.1, hP.2.2, hP.2.1.F ht⟩) hP.2.1.2.2 hd (hlocks := C.2.2.2.2.2.2.2.2.2.1)
/-- a boolean that isn't a constant -/
theorem v_zretb (C : CF x G Z cc nL Ts own) {v : Int32} {g : Int32 → Option β} (hr : (xM x).sig.returnType = some .boolean) (hd : decode cc pc = .ok (.ireturn, 1)) (ho : ∀ a, (g v).bind f = some a → J a = (some (.int v), μ)) : VK x G Z (0, 0) nL (QM x G Z) J pc lv [.int v] μ ((bz v).bind g) f := by
  intro a ha H locs ls hP hl
  rw [Option.bind_assoc] at ha
  obtain ⟨hv, ha⟩ := bz_iff ha
  rw [ho a ha]
  exact W.zret C.1 C.2.1 hr (by rcases hv with rfl | rfl <;> rfl) (fun t ht hW => ⟨rfl, by rw [ht]; exact hP.1, hP.2.2, hP.2.1.F ht⟩) hP.2.1.2.2 hd (hlocks := C.2.2.2.2.2.2.2.2.2.1)
theorem v_vret (C : CF x G Z cc nL Ts own) (hr : (xM x).sig.returnType = none) (hd : decode cc pc = .ok (.return_, 1)) (ho : ∀ a, o.bind f = some a → J a = (none, μ)) : VK x G Z (0, 0) nL (QM x G Z) J pc lv [] μ o f := by
  intro a ha H locs ls hP hl
  rw [ho a ha]
  exact W.vret C.1 C.2.1 hr (fun t ht hW => ⟨rfl, by rw [ht]; exact hP.1, hP.2.2, hP.2.1.F ht⟩) hP.2.1.2.2 hd (hlocks := C.2.2.2.2.2.2.2.2.2.1)
theorem pz_pre (C : CF x G Z cc nL Ts own) {H : Heap} {locs : List Loc} (hP : PW G Z μ (xs x) H locs) {av : List Value} {U : State} (hU : U.heap = H) (hW : (xs x).WarmedH U.vm) : PZ G Z av μ av.toArray U :=
  ⟨rfl, by rw [hU]; exact hP.1, C.2.2.2.2.2.1.warm hW, by rw [hU]; exact C.2.2.2.2.2.2.1.to hW.alike hP.2.1.2.1, by rw [hU]; exact C.2.2.2.2.2.2.2.2.2.2.to hW.alike hP.2.1.2.1, hP.2.2⟩
/-- behind a call -/
theorem v_back {J' : γ → Option Value × MT} {b : γ} {g : γ → Option β} {a : α} {H : Heap} {locs : List Loc} {ls : Array Slot} {st0 : List Value} {av : Array Value} (ha : (g b).bind f = some a) (hP : PW G Z μ (xs x) H locs) (hl : lv_has ls nL lv)
    (hr : va_Run x.1 x.2.1 x.2.2.1 (xR x) (xs x) (xm x) (xa x) (xb x) (xM x) (xc x) H locs cs.1 cs.2 0 0 (F0 (xm x) pc ls st0) st (QZ G Z (J' b).1 (J' b).2 av) (gA G))
    (kk : ∀ b, VK x G Z cs nL Q J (pc + 3) lv ((J' b).1.toList ++ st) (J' b).2 (g b) f) : W x.1 x.2.1 x.2.2.1 (xR x) (xs x) (xm x) (xa x) (xb x) (xM x) (xc x) H locs cs.1 cs.2 (Q (J a).1 (J a).2) (F0 (xm x) pc ls st0) := by
  intro T hT X
  obtain ⟨v, st₀, t, T', L, h0, X', hL, e1, e2, ⟨hv, hPt, hRt, hz, hk⟩, step⟩ := hr T hT X
  cases hv
  rw [h0] at hz hk
  obtain ⟨t2, a1, b1⟩ := kk b a ha T'.heap (locs ++ L) ls ⟨by rw [e1]; exact hPt, ⟨Nat.le_trans hP.2.1.1 (by rw [e1]; exact hz), fun q h1 h2 => by rw [e1, hk q (Nat.lt_of_lt_of_le h1 hP.2.1.1) h2]; exact hP.2.1.2.1 q h1 h2, fun q hq => by
      rcases List.mem_append.mp hq with h | h
      · exact hP.2.1.2.2 q h
      · exact hL q h⟩, hRt⟩ hl T' rfl X'
  exact ⟨t2, step t2 a1, b1⟩
theorem ob_iff {oc : Option γ} {g : γ → Option β} {a : α} (h : (oc.bind g).bind f = some a) : ∃ b, oc = some b ∧ (g b).bind f = some a := by
  cases oc with
  | none => cases h
  | some b => exact ⟨b, rfl, h⟩
/-- what a call needs of the words: a method's link, its code -/
def CWv (own : String) (index : Nat) (C : String) (y : MethodName) (c : ByteArray) (n : Nat) (r : Option FieldType) (np : Nat) : Prop := (∀ w ∈ ([.methodLink own index y, .instanceMethod y, .selects C y y, .initialized C, .code y c n r] : List Cond), w ∈ BG) ∧ y.cls = C ∧ y.cls ≠ "java/lang/invoke/MethodHandle" ∧ y.cls ≠ "java/lang/invoke/VarHandle" ∧ (parseMethodDescriptor y.desc).map (fun d => d.parameters.length) = some np
def CWs (own : String) (index : Nat) (y : MethodName) (c : ByteArray) (n : Nat) (r : Option FieldType) (np : Nat) : Prop := (∀ w ∈ ([.methodLink own index y, .static y, .initialized y.cls, .code y c n r] : List Cond), w ∈ BG) ∧ y.cls ≠ "java/lang/invoke/MethodHandle" ∧ y.cls ≠ "java/lang/invoke/VarHandle" ∧ (parseMethodDescriptor y.desc).map (fun d => d.parameters.length) = some np
theorem cw_good {ws : List Cond} (h : ∀ w ∈ ws, w ∈ BG) : GoodIn BG ws := fun w hw => ⟨h w hw, good_of_word (bg_good w (h w hw))⟩
theorem v_cv (C : CF x G Z cc nL BG own) {d np : Nat} (hR : RO x cs (d + 1)) {c : Nat} {N : String} {T : u_T} {n0 : Nat} (hc : vwCl[c]? = some (N, T, n0)) {y : MethodName} {bytes : ByteArray} {n : Nat} {r : Option FieldType} {index : Nat} (cw : CWv own index N y bytes n r np) (hn40 : n ≤ 40) {J' : γ → Option Value × MT} {k : Nat} (hk : Ob G Z k c) (hc20 : c < 20) {av : List Value} (hnp : av.length = np) {oc : Option γ} {g : γ → Option β}
    (hM : ∀ b, oc = some b → MZ x.2.1 G Z y bytes n r d (.ref (ga G k) :: av) μ (J' b).1 (J' b).2) (hst : (st.map fun v => v.category).sum ≤ 8) (hd : decode cc pc = .ok (.invokevirtual index, 3))
    (kk : ∀ b, VK x G Z cs nL Q J (pc + 3) lv ((J' b).1.toList ++ st) (J' b).2 (g b) f) {st0 : List Value} (hs : st0 = av.reverse ++ .ref (ga G k) :: st) : VK x G Z cs nL Q J pc lv st0 μ (oc.bind g) f := by
  subst hs
  intro a ha H locs ls hP hl
  obtain ⟨b, hb, ha⟩ := ob_iff ha
  have hG : GoodIn BG (wsV own index N y (Cond.code y bytes n r :: BG)) := cw_good (fun w hw => by
    rcases List.mem_append.mp hw with h | h
    · simp only [List.mem_cons, List.not_mem_nil, or_false] at h
      exact cw.1 w (by rcases h with h | h | h | h <;> simp [h])
    · rcases List.mem_cons.mp h with rfl | h
      · exact cw.1 _ (by simp)
      · exact h)
  have hR' := hR
  obtain ⟨r1, r2, r3, r4⟩ := hR'
  exact v_back ha hP hl (va_runV (As := av) (rest := st) ⟨C.1, C.2.1, C.2.2.1, C.2.2.2.1, C.2.2.2.2.1⟩ (hM b hb) (cwV np C.2.2.2.2.1 hG rfl rfl rfl cw.2 ⟨by show d + 1 ≤ _; exact r1, by show 8 + (n + 11) + 64 * d ≤ _; omega⟩) ⟨PZ.blind, va_recv C.2.2.2.2.2.1.1 hP.1 hc (q0 := k) (by rw [wd_get hk.2, ce_obj hk.1 hc20]), fun U hU hW => pz_pre C hP hU hW⟩ rfl hnp hl.1 rfl (lv_room hst) hd ⟨by show _ + 0 ≤ _; exact r3, by show _ + 0 ≤ _; exact r4⟩) kk
theorem v_cs (C : CF x G Z cc nL BG own) {d np : Nat} (hR : RO x cs (d + 1)) {y : MethodName} {bytes : ByteArray} {n : Nat} {r : Option FieldType} {index : Nat} (cw : CWs own index y bytes n r np) (hn40 : n ≤ 40) {J' : γ → Option Value × MT} {av : List Value} (hnp : av.length = np) {oc : Option γ} {g : γ → Option β}
    (hM : ∀ b, oc = some b → MZ x.2.1 G Z y bytes n r d av μ (J' b).1 (J' b).2) (hst : (st.map fun v => v.category).sum ≤ 8) (hd : decode cc pc = .ok (.invokestatic index, 3))
    (kk : ∀ b, VK x G Z cs nL Q J (pc + 3) lv ((J' b).1.toList ++ st) (J' b).2 (g b) f) {st0 : List Value} (hs : st0 = av.reverse ++ st) : VK x G Z cs nL Q J pc lv st0 μ (oc.bind g) f := by
  subst hs
  intro a ha H locs ls hP hl
  obtain ⟨b, hb, ha⟩ := ob_iff ha
  have hG : GoodIn BG (va_wsS own index y (Cond.code y bytes n r :: BG)) := cw_good (fun w hw => by
    rcases List.mem_append.mp hw with h | h
    · simp only [List.mem_cons, List.not_mem_nil, or_false] at h
      exact cw.1 w (by rcases h with h | h | h <;> simp [h])
    · rcases List.mem_cons.mp h with rfl | h
      · exact cw.1 _ (by simp)
      · exact h)
  have hR' := hR
  obtain ⟨r1, r2, r3, r4⟩ := hR'
  exact v_back ha hP hl (va_runS (As := av) (rest := st) ⟨C.1, C.2.1, C.2.2.1, C.2.2.2.1, C.2.2.2.2.1⟩ (hM b hb) (va_cwS np C.2.2.2.2.1 hG rfl rfl rfl cw.2 ⟨by show d + 1 ≤ _; exact r1, by show 8 + (n + 11) + 64 * d ≤ _; omega⟩) ⟨PZ.blind, fun U hU hW => pz_pre C hP hU hW⟩ rfl hnp hl.1 rfl (lv_room hst) hd ⟨by show _ + 0 ≤ _; exact r3, by show _ + 0 ≤ _; exact r4⟩) kk
/-- a loop: a body that goes on or leaves -/
def loop {σ τ : Type} (body : σ → Option (σ ⊕ τ)) : Nat → σ → Option τ
  | 0, _ => none
  | n + 1, s => (body s).bind (fun q => match q with
    | .inl s' => loop body n s'
    | .inr t => some t)
theorem v_loop {σ τ : Type} {body : σ → Option (σ ⊕ τ)} {F : τ → Option α} {P : σ → List (Nat × Value)} {S : σ → List Value} {M : σ → MT}
    (h : ∀ X : σ → Option α, (∀ s, VK x G Z cs nL Q J pc (P s) (S s) (M s) (X s) some) → ∀ s, VK x G Z cs nL Q J pc (P s) (S s) (M s) (body s) (fun q => match q with
      | .inl s' => X s'
      | .inr t => F t)) : ∀ (N : Nat) (s : σ), VK x G Z cs nL Q J pc (P s) (S s) (M s) (loop body N s) F := by
  intro N
  induction N with
  | zero =>
    intro s a ha
    cases ha
  | succ N ih =>
    intro s a ha
    refine h (fun s => (loop body N s).bind F) (fun s a ha => ih s a (by rw [ob_r] at ha; exact ha)) s a ?_
    rw [← ha]
    show _ = ((body s).bind _).bind F
    rw [Option.bind_assoc]
    congr 1
    funext q
    cases q <;> rfl
end VCALLS
end
