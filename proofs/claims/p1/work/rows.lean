section
-- ===== PART A: goes FIRST, ahead of the names: the tables' words, and 'selects' of the private methods out of them =====
/-- a private method of a class that the tables say can be made, by its rows of tables_1 -/
def lw_okq (q : MethodName × Nat) : Prop := (q.1.cls ≠ "java/lang/invoke/MethodHandle" ∧ q.1.cls ≠ "java/lang/invoke/VarHandle") ∧ Cond.instantiable q.1.cls q.2 ∈ tables_1 ∧ Cond.privateMethod q.1 ∈ tables_1 ∧ Cond.instanceMethod q.1 ∈ tables_1
theorem lw_p0 : lw_okq (⟨"TollDelay$Reader", "skipBlanks", "()V"⟩, 5) := ⟨⟨by decide +kernel, by decide +kernel⟩, List.mem_of_getElem? (i := 23) (by decide +kernel), List.mem_of_getElem? (i := 341) (by decide +kernel), List.mem_of_getElem? (i := 342) (by decide +kernel)⟩
theorem lw_p1 : lw_okq (⟨"TollDelay$Reader", "nextLetter", "()I"⟩, 5) := ⟨⟨by decide +kernel, by decide +kernel⟩, List.mem_of_getElem? (i := 23) (by decide +kernel), List.mem_of_getElem? (i := 345) (by decide +kernel), List.mem_of_getElem? (i := 346) (by decide +kernel)⟩
theorem lw_p2 : lw_okq (⟨"TollDelay$Reader", "readClause", "(LTollDelay$Bridge;)V"⟩, 5) := ⟨⟨by decide +kernel, by decide +kernel⟩, List.mem_of_getElem? (i := 23) (by decide +kernel), List.mem_of_getElem? (i := 349) (by decide +kernel), List.mem_of_getElem? (i := 350) (by decide +kernel)⟩
theorem lw_p3 : lw_okq (⟨"TollDelay$Reader", "note", "(II)V"⟩, 5) := ⟨⟨by decide +kernel, by decide +kernel⟩, List.mem_of_getElem? (i := 23) (by decide +kernel), List.mem_of_getElem? (i := 360) (by decide +kernel), List.mem_of_getElem? (i := 361) (by decide +kernel)⟩
theorem lw_p4 : lw_okq (⟨"TollDelay$Reader", "readRate", "(LTollDelay$Bridge;)V"⟩, 5) := ⟨⟨by decide +kernel, by decide +kernel⟩, List.mem_of_getElem? (i := 23) (by decide +kernel), List.mem_of_getElem? (i := 364) (by decide +kernel), List.mem_of_getElem? (i := 365) (by decide +kernel)⟩
theorem lw_p5 : lw_okq (⟨"TollDelay$Reader", "readNumber", "(II)I"⟩, 5) := ⟨⟨by decide +kernel, by decide +kernel⟩, List.mem_of_getElem? (i := 23) (by decide +kernel), List.mem_of_getElem? (i := 368) (by decide +kernel), List.mem_of_getElem? (i := 369) (by decide +kernel)⟩
theorem lw_p6 : lw_okq (⟨"TollDelay$Reader", "readEnd", "()Z"⟩, 5) := ⟨⟨by decide +kernel, by decide +kernel⟩, List.mem_of_getElem? (i := 23) (by decide +kernel), List.mem_of_getElem? (i := 375) (by decide +kernel), List.mem_of_getElem? (i := 376) (by decide +kernel)⟩
theorem lw_p7 : lw_okq (⟨"TollDelay$Reader", "readMatter", "(LTollDelay$Bridge;)V"⟩, 5) := ⟨⟨by decide +kernel, by decide +kernel⟩, List.mem_of_getElem? (i := 23) (by decide +kernel), List.mem_of_getElem? (i := 379) (by decide +kernel), List.mem_of_getElem? (i := 380) (by decide +kernel)⟩
theorem lw_p8 : lw_okq (⟨"TollDelay$Reader", "readTraveller", "(LTollDelay$Bridge;)V"⟩, 5) := ⟨⟨by decide +kernel, by decide +kernel⟩, List.mem_of_getElem? (i := 23) (by decide +kernel), List.mem_of_getElem? (i := 387) (by decide +kernel), List.mem_of_getElem? (i := 388) (by decide +kernel)⟩
theorem lw_p9 : lw_okq (⟨"TollDelay$Bridge", "beginnersOf", "(I)I"⟩, 10) := ⟨⟨by decide +kernel, by decide +kernel⟩, List.mem_of_getElem? (i := 201) (by decide +kernel), List.mem_of_getElem? (i := 402) (by decide +kernel), List.mem_of_getElem? (i := 403) (by decide +kernel)⟩
theorem lw_p10 : lw_okq (⟨"TollDelay", "beginBridge", "()V"⟩, 12) := ⟨⟨by decide +kernel, by decide +kernel⟩, List.mem_of_getElem? (i := 15) (by decide +kernel), List.mem_of_getElem? (i := 413) (by decide +kernel), List.mem_of_getElem? (i := 414) (by decide +kernel)⟩
theorem lw_p11 : lw_okq (⟨"TollDelay$Evening", "emptySeat", "()V"⟩, 12) := ⟨⟨by decide +kernel, by decide +kernel⟩, List.mem_of_getElem? (i := 49) (by decide +kernel), List.mem_of_getElem? (i := 425) (by decide +kernel), List.mem_of_getElem? (i := 426) (by decide +kernel)⟩
theorem lw_p12 : lw_okq (⟨"TollDelay$Talk", "worthOfAll", "(LTollDelay$Bridge;I)I"⟩, 4) := ⟨⟨by decide +kernel, by decide +kernel⟩, List.mem_of_getElem? (i := 128) (by decide +kernel), List.mem_of_getElem? (i := 459) (by decide +kernel), List.mem_of_getElem? (i := 460) (by decide +kernel)⟩
theorem lw_p13 : lw_okq (⟨"TollDelay$Talk", "weigh", "(II)V"⟩, 4) := ⟨⟨by decide +kernel, by decide +kernel⟩, List.mem_of_getElem? (i := 128) (by decide +kernel), List.mem_of_getElem? (i := 491) (by decide +kernel), List.mem_of_getElem? (i := 492) (by decide +kernel)⟩
theorem lw_p14 : lw_okq (⟨"TollDelay", "toldOfEvening", "(I)I"⟩, 12) := ⟨⟨by decide +kernel, by decide +kernel⟩, List.mem_of_getElem? (i := 15) (by decide +kernel), List.mem_of_getElem? (i := 500) (by decide +kernel), List.mem_of_getElem? (i := 501) (by decide +kernel)⟩
theorem lw_p15 : lw_okq (⟨"TollDelay$Bridge", "oneStepFrom", "(I)I"⟩, 10) := ⟨⟨by decide +kernel, by decide +kernel⟩, List.mem_of_getElem? (i := 201) (by decide +kernel), List.mem_of_getElem? (i := 514) (by decide +kernel), List.mem_of_getElem? (i := 515) (by decide +kernel)⟩
def lw_privs_1 : List (MethodName × Nat) := [(⟨"TollDelay$Reader", "skipBlanks", "()V"⟩, 5), (⟨"TollDelay$Reader", "nextLetter", "()I"⟩, 5), (⟨"TollDelay$Reader", "readClause", "(LTollDelay$Bridge;)V"⟩, 5), (⟨"TollDelay$Reader", "note", "(II)V"⟩, 5), (⟨"TollDelay$Reader", "readRate", "(LTollDelay$Bridge;)V"⟩, 5), (⟨"TollDelay$Reader", "readNumber", "(II)I"⟩, 5), (⟨"TollDelay$Reader", "readEnd", "()Z"⟩, 5), (⟨"TollDelay$Reader", "readMatter", "(LTollDelay$Bridge;)V"⟩, 5), (⟨"TollDelay$Reader", "readTraveller", "(LTollDelay$Bridge;)V"⟩, 5), (⟨"TollDelay$Bridge", "beginnersOf", "(I)I"⟩, 10), (⟨"TollDelay", "beginBridge", "()V"⟩, 12), (⟨"TollDelay$Evening", "emptySeat", "()V"⟩, 12), (⟨"TollDelay$Talk", "worthOfAll", "(LTollDelay$Bridge;I)I"⟩, 4), (⟨"TollDelay$Talk", "weigh", "(II)V"⟩, 4), (⟨"TollDelay", "toldOfEvening", "(I)I"⟩, 12), (⟨"TollDelay$Bridge", "oneStepFrom", "(I)I"⟩, 10)]
theorem lw_r1 : ∀ q ∈ lw_privs_1, lw_okq q := List.forall_mem_cons.mpr ⟨lw_p0, List.forall_mem_cons.mpr ⟨lw_p1, List.forall_mem_cons.mpr ⟨lw_p2, List.forall_mem_cons.mpr ⟨lw_p3, List.forall_mem_cons.mpr ⟨lw_p4, List.forall_mem_cons.mpr ⟨lw_p5, List.forall_mem_cons.mpr ⟨lw_p6, List.forall_mem_cons.mpr ⟨lw_p7, List.forall_mem_cons.mpr ⟨lw_p8, List.forall_mem_cons.mpr ⟨lw_p9, List.forall_mem_cons.mpr ⟨lw_p10, List.forall_mem_cons.mpr ⟨lw_p11, List.forall_mem_cons.mpr ⟨lw_p12, List.forall_mem_cons.mpr ⟨lw_p13, List.forall_mem_cons.mpr ⟨lw_p14, List.forall_mem_cons.mpr ⟨lw_p15, fun _ h => absurd h List.not_mem_nil⟩⟩⟩⟩⟩⟩⟩⟩⟩⟩⟩⟩⟩⟩⟩⟩
theorem lw_p16 : lw_okq (⟨"TollDelay$Evening", "follows", "(LTollDelay$Bridge;I)Z"⟩, 12) := ⟨⟨by decide +kernel, by decide +kernel⟩, List.mem_of_getElem? (i := 49) (by decide +kernel), List.mem_of_getElem? (i := 574) (by decide +kernel), List.mem_of_getElem? (i := 575) (by decide +kernel)⟩
theorem lw_p17 : lw_okq (⟨"TollDelay$Evening", "takeUp", "(I)V"⟩, 12) := ⟨⟨by decide +kernel, by decide +kernel⟩, List.mem_of_getElem? (i := 49) (by decide +kernel), List.mem_of_getElem? (i := 590) (by decide +kernel), List.mem_of_getElem? (i := 591) (by decide +kernel)⟩
theorem lw_p18 : lw_okq (⟨"TollDelay", "driftOnce", "()V"⟩, 12) := ⟨⟨by decide +kernel, by decide +kernel⟩, List.mem_of_getElem? (i := 15) (by decide +kernel), List.mem_of_getElem? (i := 625) (by decide +kernel), List.mem_of_getElem? (i := 626) (by decide +kernel)⟩
theorem lw_p19 : lw_okq (⟨"TollDelay", "drawSeat", "()V"⟩, 12) := ⟨⟨by decide +kernel, by decide +kernel⟩, List.mem_of_getElem? (i := 15) (by decide +kernel), List.mem_of_getElem? (i := 629) (by decide +kernel), List.mem_of_getElem? (i := 630) (by decide +kernel)⟩
theorem lw_p20 : lw_okq (⟨"TollDelay", "drawOf", "(I)I"⟩, 12) := ⟨⟨by decide +kernel, by decide +kernel⟩, List.mem_of_getElem? (i := 15) (by decide +kernel), List.mem_of_getElem? (i := 633) (by decide +kernel), List.mem_of_getElem? (i := 634) (by decide +kernel)⟩
theorem lw_p21 : lw_okq (⟨"TollDelay", "drawTelling", "()V"⟩, 12) := ⟨⟨by decide +kernel, by decide +kernel⟩, List.mem_of_getElem? (i := 15) (by decide +kernel), List.mem_of_getElem? (i := 641) (by decide +kernel), List.mem_of_getElem? (i := 642) (by decide +kernel)⟩
theorem lw_p22 : lw_okq (⟨"TollDelay$Line", "payOfOrder", "()I"⟩, 7) := ⟨⟨by decide +kernel, by decide +kernel⟩, List.mem_of_getElem? (i := 151) (by decide +kernel), List.mem_of_getElem? (i := 680) (by decide +kernel), List.mem_of_getElem? (i := 681) (by decide +kernel)⟩
theorem lw_p23 : lw_okq (⟨"TollDelay$Line", "figuresOfOrder", "()I"⟩, 7) := ⟨⟨by decide +kernel, by decide +kernel⟩, List.mem_of_getElem? (i := 151) (by decide +kernel), List.mem_of_getElem? (i := 684) (by decide +kernel), List.mem_of_getElem? (i := 685) (by decide +kernel)⟩
theorem lw_p24 : lw_okq (⟨"TollDelay$Line", "nextOrder", "()Z"⟩, 7) := ⟨⟨by decide +kernel, by decide +kernel⟩, List.mem_of_getElem? (i := 151) (by decide +kernel), List.mem_of_getElem? (i := 688) (by decide +kernel), List.mem_of_getElem? (i := 689) (by decide +kernel)⟩
theorem lw_p25 : lw_okq (⟨"TollDelay$Line", "swap", "(II)V"⟩, 7) := ⟨⟨by decide +kernel, by decide +kernel⟩, List.mem_of_getElem? (i := 151) (by decide +kernel), List.mem_of_getElem? (i := 692) (by decide +kernel), List.mem_of_getElem? (i := 693) (by decide +kernel)⟩
theorem lw_p26 : lw_okq (⟨"TollDelay$Entries", "fits", "(LTollDelay$Bridge;I)Z"⟩, 3) := ⟨⟨by decide +kernel, by decide +kernel⟩, List.mem_of_getElem? (i := 181) (by decide +kernel), List.mem_of_getElem? (i := 718) (by decide +kernel), List.mem_of_getElem? (i := 719) (by decide +kernel)⟩
theorem lw_p27 : lw_okq (⟨"TollDelayModel", "readsBridge", "()Z"⟩, 43) := ⟨⟨by decide +kernel, by decide +kernel⟩, List.mem_of_getElem? (i := 769) (by decide +kernel), List.mem_of_getElem? (i := 920) (by decide +kernel), List.mem_of_getElem? (i := 921) (by decide +kernel)⟩
theorem lw_p28 : lw_okq (⟨"TollDelayModel", "nextLetter", "()I"⟩, 43) := ⟨⟨by decide +kernel, by decide +kernel⟩, List.mem_of_getElem? (i := 769) (by decide +kernel), List.mem_of_getElem? (i := 924) (by decide +kernel), List.mem_of_getElem? (i := 925) (by decide +kernel)⟩
theorem lw_p29 : lw_okq (⟨"TollDelayModel", "letterAt", "(I)I"⟩, 43) := ⟨⟨by decide +kernel, by decide +kernel⟩, List.mem_of_getElem? (i := 769) (by decide +kernel), List.mem_of_getElem? (i := 928) (by decide +kernel), List.mem_of_getElem? (i := 929) (by decide +kernel)⟩
theorem lw_p30 : lw_okq (⟨"TollDelayModel", "readsClause", "()Z"⟩, 43) := ⟨⟨by decide +kernel, by decide +kernel⟩, List.mem_of_getElem? (i := 769) (by decide +kernel), List.mem_of_getElem? (i := 932) (by decide +kernel), List.mem_of_getElem? (i := 933) (by decide +kernel)⟩
theorem lw_p31 : lw_okq (⟨"TollDelayModel", "readsHead", "()Z"⟩, 43) := ⟨⟨by decide +kernel, by decide +kernel⟩, List.mem_of_getElem? (i := 769) (by decide +kernel), List.mem_of_getElem? (i := 936) (by decide +kernel), List.mem_of_getElem? (i := 937) (by decide +kernel)⟩
def lw_privs_2 : List (MethodName × Nat) := [(⟨"TollDelay$Evening", "follows", "(LTollDelay$Bridge;I)Z"⟩, 12), (⟨"TollDelay$Evening", "takeUp", "(I)V"⟩, 12), (⟨"TollDelay", "driftOnce", "()V"⟩, 12), (⟨"TollDelay", "drawSeat", "()V"⟩, 12), (⟨"TollDelay", "drawOf", "(I)I"⟩, 12), (⟨"TollDelay", "drawTelling", "()V"⟩, 12), (⟨"TollDelay$Line", "payOfOrder", "()I"⟩, 7), (⟨"TollDelay$Line", "figuresOfOrder", "()I"⟩, 7), (⟨"TollDelay$Line", "nextOrder", "()Z"⟩, 7), (⟨"TollDelay$Line", "swap", "(II)V"⟩, 7), (⟨"TollDelay$Entries", "fits", "(LTollDelay$Bridge;I)Z"⟩, 3), (⟨"TollDelayModel", "readsBridge", "()Z"⟩, 43), (⟨"TollDelayModel", "nextLetter", "()I"⟩, 43), (⟨"TollDelayModel", "letterAt", "(I)I"⟩, 43), (⟨"TollDelayModel", "readsClause", "()Z"⟩, 43), (⟨"TollDelayModel", "readsHead", "()Z"⟩, 43)]
theorem lw_r2 : ∀ q ∈ lw_privs_2, lw_okq q := List.forall_mem_cons.mpr ⟨lw_p16, List.forall_mem_cons.mpr ⟨lw_p17, List.forall_mem_cons.mpr ⟨lw_p18, List.forall_mem_cons.mpr ⟨lw_p19, List.forall_mem_cons.mpr ⟨lw_p20, List.forall_mem_cons.mpr ⟨lw_p21, List.forall_mem_cons.mpr ⟨lw_p22, List.forall_mem_cons.mpr ⟨lw_p23, List.forall_mem_cons.mpr ⟨lw_p24, List.forall_mem_cons.mpr ⟨lw_p25, List.forall_mem_cons.mpr ⟨lw_p26, List.forall_mem_cons.mpr ⟨lw_p27, List.forall_mem_cons.mpr ⟨lw_p28, List.forall_mem_cons.mpr ⟨lw_p29, List.forall_mem_cons.mpr ⟨lw_p30, List.forall_mem_cons.mpr ⟨lw_p31, fun _ h => absurd h List.not_mem_nil⟩⟩⟩⟩⟩⟩⟩⟩⟩⟩⟩⟩⟩⟩⟩⟩
theorem lw_p32 : lw_okq (⟨"TollDelayModel", "readsNumber", "(II)I"⟩, 43) := ⟨⟨by decide +kernel, by decide +kernel⟩, List.mem_of_getElem? (i := 769) (by decide +kernel), List.mem_of_getElem? (i := 940) (by decide +kernel), List.mem_of_getElem? (i := 941) (by decide +kernel)⟩
theorem lw_p33 : lw_okq (⟨"TollDelayModel", "fails", "(II)I"⟩, 43) := ⟨⟨by decide +kernel, by decide +kernel⟩, List.mem_of_getElem? (i := 769) (by decide +kernel), List.mem_of_getElem? (i := 944) (by decide +kernel), List.mem_of_getElem? (i := 945) (by decide +kernel)⟩
theorem lw_p34 : lw_okq (⟨"TollDelayModel", "readsSign", "(I)Z"⟩, 43) := ⟨⟨by decide +kernel, by decide +kernel⟩, List.mem_of_getElem? (i := 769) (by decide +kernel), List.mem_of_getElem? (i := 948) (by decide +kernel), List.mem_of_getElem? (i := 949) (by decide +kernel)⟩
theorem lw_p35 : lw_okq (⟨"TollDelayModel", "readsMatter", "()Z"⟩, 43) := ⟨⟨by decide +kernel, by decide +kernel⟩, List.mem_of_getElem? (i := 769) (by decide +kernel), List.mem_of_getElem? (i := 952) (by decide +kernel), List.mem_of_getElem? (i := 953) (by decide +kernel)⟩
theorem lw_p36 : lw_okq (⟨"TollDelayModel", "readsTraveller", "()Z"⟩, 43) := ⟨⟨by decide +kernel, by decide +kernel⟩, List.mem_of_getElem? (i := 769) (by decide +kernel), List.mem_of_getElem? (i := 956) (by decide +kernel), List.mem_of_getElem? (i := 957) (by decide +kernel)⟩
theorem lw_p37 : lw_okq (⟨"TollDelayModel", "are", "(I)I"⟩, 43) := ⟨⟨by decide +kernel, by decide +kernel⟩, List.mem_of_getElem? (i := 769) (by decide +kernel), List.mem_of_getElem? (i := 968) (by decide +kernel), List.mem_of_getElem? (i := 969) (by decide +kernel)⟩
theorem lw_p38 : lw_okq (⟨"TollDelayModel", "nobodys", "()I"⟩, 43) := ⟨⟨by decide +kernel, by decide +kernel⟩, List.mem_of_getElem? (i := 769) (by decide +kernel), List.mem_of_getElem? (i := 972) (by decide +kernel), List.mem_of_getElem? (i := 973) (by decide +kernel)⟩
theorem lw_p39 : lw_okq (⟨"TollDelayModel", "longestSat", "()I"⟩, 43) := ⟨⟨by decide +kernel, by decide +kernel⟩, List.mem_of_getElem? (i := 769) (by decide +kernel), List.mem_of_getElem? (i := 976) (by decide +kernel), List.mem_of_getElem? (i := 977) (by decide +kernel)⟩
theorem lw_p40 : lw_okq (⟨"TollDelayModel", "bestToLearn", "()I"⟩, 43) := ⟨⟨by decide +kernel, by decide +kernel⟩, List.mem_of_getElem? (i := 769) (by decide +kernel), List.mem_of_getElem? (i := 980) (by decide +kernel), List.mem_of_getElem? (i := 981) (by decide +kernel)⟩
theorem lw_p41 : lw_okq (⟨"TollDelayModel", "worthOfAll", "(I)I"⟩, 43) := ⟨⟨by decide +kernel, by decide +kernel⟩, List.mem_of_getElem? (i := 769) (by decide +kernel), List.mem_of_getElem? (i := 987) (by decide +kernel), List.mem_of_getElem? (i := 988) (by decide +kernel)⟩
theorem lw_p42 : lw_okq (⟨"TollDelayModel", "layTalk", "(II)V"⟩, 43) := ⟨⟨by decide +kernel, by decide +kernel⟩, List.mem_of_getElem? (i := 769) (by decide +kernel), List.mem_of_getElem? (i := 991) (by decide +kernel), List.mem_of_getElem? (i := 992) (by decide +kernel)⟩
theorem lw_p43 : lw_okq (⟨"TollDelayModel", "layTalks", "(I)V"⟩, 43) := ⟨⟨by decide +kernel, by decide +kernel⟩, List.mem_of_getElem? (i := 769) (by decide +kernel), List.mem_of_getElem? (i := 995) (by decide +kernel), List.mem_of_getElem? (i := 996) (by decide +kernel)⟩
theorem lw_p44 : lw_okq (⟨"TollDelayModel", "stayOf", "(II)I"⟩, 43) := ⟨⟨by decide +kernel, by decide +kernel⟩, List.mem_of_getElem? (i := 769) (by decide +kernel), List.mem_of_getElem? (i := 999) (by decide +kernel), List.mem_of_getElem? (i := 1000) (by decide +kernel)⟩
theorem lw_p45 : lw_okq (⟨"TollDelayModel", "payFor", "(I)I"⟩, 43) := ⟨⟨by decide +kernel, by decide +kernel⟩, List.mem_of_getElem? (i := 769) (by decide +kernel), List.mem_of_getElem? (i := 1006) (by decide +kernel), List.mem_of_getElem? (i := 1007) (by decide +kernel)⟩
theorem lw_p46 : lw_okq (⟨"TollDelayModel", "isMatter", "(I)Z"⟩, 43) := ⟨⟨by decide +kernel, by decide +kernel⟩, List.mem_of_getElem? (i := 769) (by decide +kernel), List.mem_of_getElem? (i := 1014) (by decide +kernel), List.mem_of_getElem? (i := 1015) (by decide +kernel)⟩
theorem lw_p47 : lw_okq (⟨"TollDelayModel", "leadsFrom", "(I)I"⟩, 43) := ⟨⟨by decide +kernel, by decide +kernel⟩, List.mem_of_getElem? (i := 769) (by decide +kernel), List.mem_of_getElem? (i := 1019) (by decide +kernel), List.mem_of_getElem? (i := 1020) (by decide +kernel)⟩
def lw_privs_3 : List (MethodName × Nat) := [(⟨"TollDelayModel", "readsNumber", "(II)I"⟩, 43), (⟨"TollDelayModel", "fails", "(II)I"⟩, 43), (⟨"TollDelayModel", "readsSign", "(I)Z"⟩, 43), (⟨"TollDelayModel", "readsMatter", "()Z"⟩, 43), (⟨"TollDelayModel", "readsTraveller", "()Z"⟩, 43), (⟨"TollDelayModel", "are", "(I)I"⟩, 43), (⟨"TollDelayModel", "nobodys", "()I"⟩, 43), (⟨"TollDelayModel", "longestSat", "()I"⟩, 43), (⟨"TollDelayModel", "bestToLearn", "()I"⟩, 43), (⟨"TollDelayModel", "worthOfAll", "(I)I"⟩, 43), (⟨"TollDelayModel", "layTalk", "(II)V"⟩, 43), (⟨"TollDelayModel", "layTalks", "(I)V"⟩, 43), (⟨"TollDelayModel", "stayOf", "(II)I"⟩, 43), (⟨"TollDelayModel", "payFor", "(I)I"⟩, 43), (⟨"TollDelayModel", "isMatter", "(I)Z"⟩, 43), (⟨"TollDelayModel", "leadsFrom", "(I)I"⟩, 43)]
theorem lw_r3 : ∀ q ∈ lw_privs_3, lw_okq q := List.forall_mem_cons.mpr ⟨lw_p32, List.forall_mem_cons.mpr ⟨lw_p33, List.forall_mem_cons.mpr ⟨lw_p34, List.forall_mem_cons.mpr ⟨lw_p35, List.forall_mem_cons.mpr ⟨lw_p36, List.forall_mem_cons.mpr ⟨lw_p37, List.forall_mem_cons.mpr ⟨lw_p38, List.forall_mem_cons.mpr ⟨lw_p39, List.forall_mem_cons.mpr ⟨lw_p40, List.forall_mem_cons.mpr ⟨lw_p41, List.forall_mem_cons.mpr ⟨lw_p42, List.forall_mem_cons.mpr ⟨lw_p43, List.forall_mem_cons.mpr ⟨lw_p44, List.forall_mem_cons.mpr ⟨lw_p45, List.forall_mem_cons.mpr ⟨lw_p46, List.forall_mem_cons.mpr ⟨lw_p47, fun _ h => absurd h List.not_mem_nil⟩⟩⟩⟩⟩⟩⟩⟩⟩⟩⟩⟩⟩⟩⟩⟩
theorem lw_p48 : lw_okq (⟨"TollDelayModel", "onward", "(I)I"⟩, 43) := ⟨⟨by decide +kernel, by decide +kernel⟩, List.mem_of_getElem? (i := 769) (by decide +kernel), List.mem_of_getElem? (i := 1023) (by decide +kernel), List.mem_of_getElem? (i := 1024) (by decide +kernel)⟩
theorem lw_p49 : lw_okq (⟨"TollDelayModel", "roundOf", "(I)I"⟩, 43) := ⟨⟨by decide +kernel, by decide +kernel⟩, List.mem_of_getElem? (i := 769) (by decide +kernel), List.mem_of_getElem? (i := 1027) (by decide +kernel), List.mem_of_getElem? (i := 1028) (by decide +kernel)⟩
theorem lw_p50 : lw_okq (⟨"TollDelayModel", "isTraveller", "(I)Z"⟩, 43) := ⟨⟨by decide +kernel, by decide +kernel⟩, List.mem_of_getElem? (i := 769) (by decide +kernel), List.mem_of_getElem? (i := 1035) (by decide +kernel), List.mem_of_getElem? (i := 1036) (by decide +kernel)⟩
theorem lw_p51 : lw_okq (⟨"TollDelayModel", "limit", "(I)I"⟩, 43) := ⟨⟨by decide +kernel, by decide +kernel⟩, List.mem_of_getElem? (i := 769) (by decide +kernel), List.mem_of_getElem? (i := 1039) (by decide +kernel), List.mem_of_getElem? (i := 1040) (by decide +kernel)⟩
theorem lw_p52 : lw_okq (⟨"TollDelayModel", "favourite", "(I)I"⟩, 43) := ⟨⟨by decide +kernel, by decide +kernel⟩, List.mem_of_getElem? (i := 769) (by decide +kernel), List.mem_of_getElem? (i := 1043) (by decide +kernel), List.mem_of_getElem? (i := 1044) (by decide +kernel)⟩
theorem lw_p53 : lw_okq (⟨"TollDelayModel", "remember", "()V"⟩, 43) := ⟨⟨by decide +kernel, by decide +kernel⟩, List.mem_of_getElem? (i := 769) (by decide +kernel), List.mem_of_getElem? (i := 1052) (by decide +kernel), List.mem_of_getElem? (i := 1053) (by decide +kernel)⟩
theorem lw_p54 : lw_okq (⟨"TollDelayModel", "seats", "(I)V"⟩, 43) := ⟨⟨by decide +kernel, by decide +kernel⟩, List.mem_of_getElem? (i := 769) (by decide +kernel), List.mem_of_getElem? (i := 1056) (by decide +kernel), List.mem_of_getElem? (i := 1057) (by decide +kernel)⟩
theorem lw_p55 : lw_okq (⟨"TollDelayModel", "isTellable", "(I)Z"⟩, 43) := ⟨⟨by decide +kernel, by decide +kernel⟩, List.mem_of_getElem? (i := 769) (by decide +kernel), List.mem_of_getElem? (i := 1064) (by decide +kernel), List.mem_of_getElem? (i := 1065) (by decide +kernel)⟩
theorem lw_p56 : lw_okq (⟨"TollDelayModel", "tells", "(I)I"⟩, 43) := ⟨⟨by decide +kernel, by decide +kernel⟩, List.mem_of_getElem? (i := 769) (by decide +kernel), List.mem_of_getElem? (i := 1068) (by decide +kernel), List.mem_of_getElem? (i := 1069) (by decide +kernel)⟩
theorem lw_p57 : lw_okq (⟨"TollDelayModel", "rises", "()I"⟩, 43) := ⟨⟨by decide +kernel, by decide +kernel⟩, List.mem_of_getElem? (i := 769) (by decide +kernel), List.mem_of_getElem? (i := 1072) (by decide +kernel), List.mem_of_getElem? (i := 1073) (by decide +kernel)⟩
theorem lw_p58 : lw_okq (⟨"TollDelayModel", "passes", "(I)V"⟩, 43) := ⟨⟨by decide +kernel, by decide +kernel⟩, List.mem_of_getElem? (i := 769) (by decide +kernel), List.mem_of_getElem? (i := 1077) (by decide +kernel), List.mem_of_getElem? (i := 1078) (by decide +kernel)⟩
theorem lw_p59 : lw_okq (⟨"TollDelayModel", "isBridge", "()Z"⟩, 43) := ⟨⟨by decide +kernel, by decide +kernel⟩, List.mem_of_getElem? (i := 769) (by decide +kernel), List.mem_of_getElem? (i := 1093) (by decide +kernel), List.mem_of_getElem? (i := 1094) (by decide +kernel)⟩
theorem lw_p60 : lw_okq (⟨"TollDelayModel", "draws", "()V"⟩, 43) := ⟨⟨by decide +kernel, by decide +kernel⟩, List.mem_of_getElem? (i := 769) (by decide +kernel), List.mem_of_getElem? (i := 1106) (by decide +kernel), List.mem_of_getElem? (i := 1107) (by decide +kernel)⟩
theorem lw_p61 : lw_okq (⟨"TollDelayModel", "draw", "(I)I"⟩, 43) := ⟨⟨by decide +kernel, by decide +kernel⟩, List.mem_of_getElem? (i := 769) (by decide +kernel), List.mem_of_getElem? (i := 1110) (by decide +kernel), List.mem_of_getElem? (i := 1111) (by decide +kernel)⟩
theorem lw_p62 : lw_okq (⟨"TollDelayModel", "paidBy", "(II)I"⟩, 43) := ⟨⟨by decide +kernel, by decide +kernel⟩, List.mem_of_getElem? (i := 769) (by decide +kernel), List.mem_of_getElem? (i := 1134) (by decide +kernel), List.mem_of_getElem? (i := 1135) (by decide +kernel)⟩
theorem lw_p63 : lw_okq (⟨"TollDelayModel", "alike", "(II)I"⟩, 43) := ⟨⟨by decide +kernel, by decide +kernel⟩, List.mem_of_getElem? (i := 769) (by decide +kernel), List.mem_of_getElem? (i := 1160) (by decide +kernel), List.mem_of_getElem? (i := 1161) (by decide +kernel)⟩
def lw_privs_4 : List (MethodName × Nat) := [(⟨"TollDelayModel", "onward", "(I)I"⟩, 43), (⟨"TollDelayModel", "roundOf", "(I)I"⟩, 43), (⟨"TollDelayModel", "isTraveller", "(I)Z"⟩, 43), (⟨"TollDelayModel", "limit", "(I)I"⟩, 43), (⟨"TollDelayModel", "favourite", "(I)I"⟩, 43), (⟨"TollDelayModel", "remember", "()V"⟩, 43), (⟨"TollDelayModel", "seats", "(I)V"⟩, 43), (⟨"TollDelayModel", "isTellable", "(I)Z"⟩, 43), (⟨"TollDelayModel", "tells", "(I)I"⟩, 43), (⟨"TollDelayModel", "rises", "()I"⟩, 43), (⟨"TollDelayModel", "passes", "(I)V"⟩, 43), (⟨"TollDelayModel", "isBridge", "()Z"⟩, 43), (⟨"TollDelayModel", "draws", "()V"⟩, 43), (⟨"TollDelayModel", "draw", "(I)I"⟩, 43), (⟨"TollDelayModel", "paidBy", "(II)I"⟩, 43), (⟨"TollDelayModel", "alike", "(II)I"⟩, 43)]
theorem lw_r4 : ∀ q ∈ lw_privs_4, lw_okq q := List.forall_mem_cons.mpr ⟨lw_p48, List.forall_mem_cons.mpr ⟨lw_p49, List.forall_mem_cons.mpr ⟨lw_p50, List.forall_mem_cons.mpr ⟨lw_p51, List.forall_mem_cons.mpr ⟨lw_p52, List.forall_mem_cons.mpr ⟨lw_p53, List.forall_mem_cons.mpr ⟨lw_p54, List.forall_mem_cons.mpr ⟨lw_p55, List.forall_mem_cons.mpr ⟨lw_p56, List.forall_mem_cons.mpr ⟨lw_p57, List.forall_mem_cons.mpr ⟨lw_p58, List.forall_mem_cons.mpr ⟨lw_p59, List.forall_mem_cons.mpr ⟨lw_p60, List.forall_mem_cons.mpr ⟨lw_p61, List.forall_mem_cons.mpr ⟨lw_p62, List.forall_mem_cons.mpr ⟨lw_p63, fun _ h => absurd h List.not_mem_nil⟩⟩⟩⟩⟩⟩⟩⟩⟩⟩⟩⟩⟩⟩⟩⟩
def lw_privs : List (MethodName × Nat) := lw_privs_1 ++ (lw_privs_2 ++ (lw_privs_3 ++ (lw_privs_4)))
def lw_tbl : List Cond := k2_sels lw_privs ++ tables_1
theorem lw_privs_ok : ∀ q ∈ lw_privs, lw_okq q := by
  show ∀ q ∈ lw_privs_1 ++ (lw_privs_2 ++ (lw_privs_3 ++ (lw_privs_4))), lw_okq q
  exact List.forall_mem_append.mpr ⟨lw_r1, List.forall_mem_append.mpr ⟨lw_r2, List.forall_mem_append.mpr ⟨lw_r3, lw_r4⟩⟩⟩
end
section
def RX0 : String := "TollDelay$Asking"
def TX0 : u_T := fun k => match k with
  | _ => ("", "", "", false)
def tyX0 : Nat → FieldType := fun k => match k with
  | _ => .int
theorem nmX0 : ∀ a, a < 0 → ∀ b, b < 0 → a ≠ b → (TX0 a).2.1 ≠ (TX0 b).2.1 := by decide +kernel
theorem tyX0_ok : ∀ k, k < 0 → parseFieldDescriptor (TX0 k).2.2.1 = some (tyX0 k) := by decide +kernel
abbrev cX0_bestOf : ByteArray := prog_2_method_2_code
def yX0_bestOf : MethodName := ⟨RX0, "bestOf", "(LTollDelay$Bridge;I)I"⟩
abbrev cX0_greatestPart : ByteArray := prog_2_method_3_code
def yX0_greatestPart : MethodName := ⟨RX0, "greatestPart", "(LTollDelay$Bridge;II)I"⟩
abbrev cX0_alike : ByteArray := prog_2_method_4_code
def yX0_alike : MethodName := ⟨RX0, "alike", "(LTollDelay$Bridge;III)I"⟩
def RX1 : String := "TollDelay$Bridge"
def TX1 : u_T := fun k => match k with
  | 0 => ("TollDelay$Bridge", "quarter", "I", false)
  | 1 => ("TollDelay$Bridge", "rate", "I", false)
  | 2 => ("TollDelay$Bridge", "matters", "I", false)
  | 3 => ("TollDelay$Bridge", "travellers", "I", false)
  | 4 => ("TollDelay$Bridge", "lasts", "[I", true)
  | 5 => ("TollDelay$Bridge", "leadsTo", "[I", true)
  | 6 => ("TollDelay$Bridge", "kind", "[I", true)
  | 7 => ("TollDelay$Bridge", "hurry", "[I", true)
  | 8 => ("TollDelay$Bridge", "cannot", "[I", true)
  | _ => ("TollDelay$Bridge", "beginners", "[I", true)
def tyX1 : Nat → FieldType := fun k => match k with
  | 0 => .int
  | 1 => .int
  | 2 => .int
  | 3 => .int
  | 4 => .array .int
  | 5 => .array .int
  | 6 => .array .int
  | 7 => .array .int
  | 8 => .array .int
  | _ => .array .int
theorem nmX1 : ∀ a, a < 10 → ∀ b, b < 10 → a ≠ b → (TX1 a).2.1 ≠ (TX1 b).2.1 := by decide +kernel
theorem tyX1_ok : ∀ k, k < 10 → parseFieldDescriptor (TX1 k).2.2.1 = some (tyX1 k) := by decide +kernel
abbrev cX1_init : ByteArray := prog_3_method_1_code
def yX1_init : MethodName := ⟨RX1, "<init>", "()V"⟩
abbrev cX1_clear : ByteArray := prog_3_method_2_code
def yX1_clear : MethodName := ⟨RX1, "clear", "()V"⟩
abbrev cX1_isThere : ByteArray := prog_3_method_3_code
def yX1_isThere : MethodName := ⟨RX1, "isThere", "()Z"⟩
abbrev cX1_hasMatter : ByteArray := prog_3_method_4_code
def yX1_hasMatter : MethodName := ⟨RX1, "hasMatter", "(I)Z"⟩
abbrev cX1_hasTraveller : ByteArray := prog_3_method_5_code
def yX1_hasTraveller : MethodName := ⟨RX1, "hasTraveller", "(I)Z"⟩
abbrev cX1_addMatter : ByteArray := prog_3_method_6_code
def yX1_addMatter : MethodName := ⟨RX1, "addMatter", "(II)V"⟩
abbrev cX1_addTraveller : ByteArray := prog_3_method_7_code
def yX1_addTraveller : MethodName := ⟨RX1, "addTraveller", "(III)V"⟩
abbrev cX1_settle : ByteArray := prog_3_method_8_code
def yX1_settle : MethodName := ⟨RX1, "settle", "()V"⟩
abbrev cX1_beginnersOf : ByteArray := prog_3_method_9_code
def yX1_beginnersOf : MethodName := ⟨RX1, "beginnersOf", "(I)I"⟩
abbrev cX1_stayOf : ByteArray := prog_3_method_10_code
def yX1_stayOf : MethodName := ⟨RX1, "stayOf", "(II)I"⟩
abbrev cX1_isProfessor : ByteArray := prog_3_method_11_code
def yX1_isProfessor : MethodName := ⟨RX1, "isProfessor", "(I)Z"⟩
abbrev cX1_mostWaiting : ByteArray := prog_3_method_12_code
def yX1_mostWaiting : MethodName := ⟨RX1, "mostWaiting", "(I)I"⟩
abbrev cX1_payFor : ByteArray := prog_3_method_13_code
def yX1_payFor : MethodName := ⟨RX1, "payFor", "(I)I"⟩
abbrev cX1_oneStepFrom : ByteArray := prog_3_method_14_code
def yX1_oneStepFrom : MethodName := ⟨RX1, "oneStepFrom", "(I)I"⟩
abbrev cX1_leadsFrom : ByteArray := prog_3_method_15_code
def yX1_leadsFrom : MethodName := ⟨RX1, "leadsFrom", "(I)I"⟩
abbrev cX1_stepsRound : ByteArray := prog_3_method_16_code
def yX1_stepsRound : MethodName := ⟨RX1, "stepsRound", "(I)I"⟩
abbrev cX1_nobodys : ByteArray := prog_3_method_17_code
def yX1_nobodys : MethodName := ⟨RX1, "nobodys", "()I"⟩
abbrev cX1_favouriteOf : ByteArray := prog_3_method_18_code
def yX1_favouriteOf : MethodName := ⟨RX1, "favouriteOf", "(I)I"⟩
def RX2 : String := "TollDelay$Entries"
def TX2 : u_T := fun k => match k with
  | 0 => ("TollDelay$Entries", "who", "[I", true)
  | 1 => ("TollDelay$Entries", "minutes", "[I", true)
  | _ => ("TollDelay$Entries", "count", "I", false)
def tyX2 : Nat → FieldType := fun k => match k with
  | 0 => .array .int
  | 1 => .array .int
  | _ => .int
theorem nmX2 : ∀ a, a < 3 → ∀ b, b < 3 → a ≠ b → (TX2 a).2.1 ≠ (TX2 b).2.1 := by decide +kernel
theorem tyX2_ok : ∀ k, k < 3 → parseFieldDescriptor (TX2 k).2.2.1 = some (tyX2 k) := by decide +kernel
abbrev cX2_init : ByteArray := prog_4_method_1_code
def yX2_init : MethodName := ⟨RX2, "<init>", "(I)V"⟩
abbrev cX2_add : ByteArray := prog_4_method_2_code
def yX2_add : MethodName := ⟨RX2, "add", "(II)Z"⟩
abbrev cX2_forget : ByteArray := prog_4_method_3_code
def yX2_forget : MethodName := ⟨RX2, "forget", "()V"⟩
abbrev cX2_firstWrong : ByteArray := prog_4_method_4_code
def yX2_firstWrong : MethodName := ⟨RX2, "firstWrong", "([I)I"⟩
abbrev cX2_fitting : ByteArray := prog_4_method_5_code
def yX2_fitting : MethodName := ⟨RX2, "fitting", "(LTollDelay$Bridge;)I"⟩
abbrev cX2_fits : ByteArray := prog_4_method_6_code
def yX2_fits : MethodName := ⟨RX2, "fits", "(LTollDelay$Bridge;I)Z"⟩
def RX3 : String := "TollDelay$Evening"
def TX3 : u_T := fun k => match k with
  | 0 => ("TollDelay$Evening", "clock", "I", false)
  | 1 => ("TollDelay$Evening", "evenings", "I", false)
  | 2 => ("TollDelay$Evening", "paid", "I", false)
  | 3 => ("TollDelay$Evening", "known", "I", false)
  | 4 => ("TollDelay$Evening", "sits", "I", false)
  | 5 => ("TollDelay$Evening", "toldHim", "I", false)
  | 6 => ("TollDelay$Evening", "toldLast", "I", false)
  | 7 => ("TollDelay$Evening", "waits", "I", false)
  | 8 => ("TollDelay$Evening", "passed", "I", false)
  | 9 => ("TollDelay$Evening", "turned", "I", false)
  | 10 => ("TollDelay$Evening", "waited", "[I", true)
  | _ => ("TollDelay$Evening", "sat", "[I", true)
def tyX3 : Nat → FieldType := fun k => match k with
  | 0 => .int
  | 1 => .int
  | 2 => .int
  | 3 => .int
  | 4 => .int
  | 5 => .int
  | 6 => .int
  | 7 => .int
  | 8 => .int
  | 9 => .int
  | 10 => .array .int
  | _ => .array .int
theorem nmX3 : ∀ a, a < 12 → ∀ b, b < 12 → a ≠ b → (TX3 a).2.1 ≠ (TX3 b).2.1 := by decide +kernel
theorem tyX3_ok : ∀ k, k < 12 → parseFieldDescriptor (TX3 k).2.2.1 = some (tyX3 k) := by decide +kernel
abbrev cX3_init : ByteArray := prog_5_method_1_code
def yX3_init : MethodName := ⟨RX3, "<init>", "()V"⟩
abbrev cX3_begin : ByteArray := prog_5_method_2_code
def yX3_begin : MethodName := ⟨RX3, "begin", "(LTollDelay$Bridge;)V"⟩
abbrev cX3_gather : ByteArray := prog_5_method_3_code
def yX3_gather : MethodName := ⟨RX3, "gather", "(LTollDelay$Bridge;)V"⟩
abbrev cX3_emptySeat : ByteArray := prog_5_method_4_code
def yX3_emptySeat : MethodName := ⟨RX3, "emptySeat", "()V"⟩
abbrev cX3_copyFrom : ByteArray := prog_5_method_5_code
def yX3_copyFrom : MethodName := ⟨RX3, "copyFrom", "(LTollDelay$Evening;)V"⟩
abbrev cX3_takeSeat : ByteArray := prog_5_method_6_code
def yX3_takeSeat : MethodName := ⟨RX3, "takeSeat", "(I)V"⟩
abbrev cX3_canHear : ByteArray := prog_5_method_7_code
def yX3_canHear : MethodName := ⟨RX3, "canHear", "(I)Z"⟩
abbrev cX3_hear : ByteArray := prog_5_method_8_code
def yX3_hear : MethodName := ⟨RX3, "hear", "(LTollDelay$Bridge;I)I"⟩
abbrev cX3_follows : ByteArray := prog_5_method_9_code
def yX3_follows : MethodName := ⟨RX3, "follows", "(LTollDelay$Bridge;I)Z"⟩
abbrev cX3_leaveSeat : ByteArray := prog_5_method_10_code
def yX3_leaveSeat : MethodName := ⟨RX3, "leaveSeat", "(LTollDelay$Bridge;)I"⟩
abbrev cX3_takeUp : ByteArray := prog_5_method_11_code
def yX3_takeUp : MethodName := ⟨RX3, "takeUp", "(I)V"⟩
abbrev cX3_passMinutes : ByteArray := prog_5_method_12_code
def yX3_passMinutes : MethodName := ⟨RX3, "passMinutes", "(LTollDelay$Bridge;I)V"⟩
abbrev cX3_patienceOf : ByteArray := prog_5_method_13_code
def yX3_patienceOf : MethodName := ⟨RX3, "patienceOf", "(LTollDelay$Bridge;I)I"⟩
abbrev cX3_longestSat : ByteArray := prog_5_method_14_code
def yX3_longestSat : MethodName := ⟨RX3, "longestSat", "(LTollDelay$Bridge;)I"⟩
def RX4 : String := "TollDelay$Image"
def TX4 : u_T := fun k => match k with
  | 0 => ("TollDelay$Image", "evening", "LTollDelay$Evening;", true)
  | 1 => ("TollDelay$Image", "drawn", "I", false)
  | _ => ("TollDelay$Image", "kept", "Z", false)
def tyX4 : Nat → FieldType := fun k => match k with
  | 0 => .object "TollDelay$Evening"
  | 1 => .int
  | _ => .boolean
theorem nmX4 : ∀ a, a < 3 → ∀ b, b < 3 → a ≠ b → (TX4 a).2.1 ≠ (TX4 b).2.1 := by decide +kernel
theorem tyX4_ok : ∀ k, k < 3 → parseFieldDescriptor (TX4 k).2.2.1 = some (tyX4 k) := by decide +kernel
abbrev cX4_init : ByteArray := prog_6_method_1_code
def yX4_init : MethodName := ⟨RX4, "<init>", "()V"⟩
def RX5 : String := "TollDelay$Line"
def TX5 : u_T := fun k => match k with
  | 0 => ("TollDelay$Line", "order", "[I", true)
  | 1 => ("TollDelay$Line", "minutes", "[I", true)
  | 2 => ("TollDelay$Line", "pay", "[I", true)
  | 3 => ("TollDelay$Line", "patience", "[I", true)
  | 4 => ("TollDelay$Line", "size", "I", false)
  | 5 => ("TollDelay$Line", "bestPay", "I", false)
  | _ => ("TollDelay$Line", "bestFigures", "I", false)
def tyX5 : Nat → FieldType := fun k => match k with
  | 0 => .array .int
  | 1 => .array .int
  | 2 => .array .int
  | 3 => .array .int
  | 4 => .int
  | 5 => .int
  | _ => .int
theorem nmX5 : ∀ a, a < 7 → ∀ b, b < 7 → a ≠ b → (TX5 a).2.1 ≠ (TX5 b).2.1 := by decide +kernel
theorem tyX5_ok : ∀ k, k < 7 → parseFieldDescriptor (TX5 k).2.2.1 = some (tyX5 k) := by decide +kernel
abbrev cX5_init : ByteArray := prog_7_method_1_code
def yX5_init : MethodName := ⟨RX5, "<init>", "()V"⟩
abbrev cX5_fill : ByteArray := prog_7_method_2_code
def yX5_fill : MethodName := ⟨RX5, "fill", "(LTollDelay$Bridge;LTollDelay$Evening;LTollDelay$Talk;)V"⟩
abbrev cX5_tryOrders : ByteArray := prog_7_method_3_code
def yX5_tryOrders : MethodName := ⟨RX5, "tryOrders", "()V"⟩
abbrev cX5_payOfOrder : ByteArray := prog_7_method_4_code
def yX5_payOfOrder : MethodName := ⟨RX5, "payOfOrder", "()I"⟩
abbrev cX5_figuresOfOrder : ByteArray := prog_7_method_5_code
def yX5_figuresOfOrder : MethodName := ⟨RX5, "figuresOfOrder", "()I"⟩
abbrev cX5_nextOrder : ByteArray := prog_7_method_6_code
def yX5_nextOrder : MethodName := ⟨RX5, "nextOrder", "()Z"⟩
abbrev cX5_swap : ByteArray := prog_7_method_7_code
def yX5_swap : MethodName := ⟨RX5, "swap", "(II)V"⟩
def RX6 : String := "TollDelay$Past"
def TX6 : u_T := fun k => match k with
  | 0 => ("TollDelay$Past", "ring", "[LTollDelay$Evening;", true)
  | 1 => ("TollDelay$Past", "count", "I", false)
  | _ => ("TollDelay$Past", "next", "I", false)
def tyX6 : Nat → FieldType := fun k => match k with
  | 0 => .array (.object "TollDelay$Evening")
  | 1 => .int
  | _ => .int
theorem nmX6 : ∀ a, a < 3 → ∀ b, b < 3 → a ≠ b → (TX6 a).2.1 ≠ (TX6 b).2.1 := by decide +kernel
theorem tyX6_ok : ∀ k, k < 3 → parseFieldDescriptor (TX6 k).2.2.1 = some (tyX6 k) := by decide +kernel
abbrev cX6_init : ByteArray := prog_8_method_1_code
def yX6_init : MethodName := ⟨RX6, "<init>", "()V"⟩
abbrev cX6_remember : ByteArray := prog_8_method_2_code
def yX6_remember : MethodName := ⟨RX6, "remember", "(LTollDelay$Evening;)V"⟩
abbrev cX6_takeBack : ByteArray := prog_8_method_3_code
def yX6_takeBack : MethodName := ⟨RX6, "takeBack", "(ILTollDelay$Evening;)V"⟩
abbrev cX6_forget : ByteArray := prog_8_method_4_code
def yX6_forget : MethodName := ⟨RX6, "forget", "()V"⟩
def RX7 : String := "TollDelay$Reader"
def TX7 : u_T := fun k => match k with
  | 0 => ("TollDelay$Reader", "letters", "[I", true)
  | 1 => ("TollDelay$Reader", "length", "I", false)
  | 2 => ("TollDelay$Reader", "at", "I", false)
  | 3 => ("TollDelay$Reader", "faultKind", "I", false)
  | _ => ("TollDelay$Reader", "faultAt", "I", false)
def tyX7 : Nat → FieldType := fun k => match k with
  | 0 => .array .int
  | 1 => .int
  | 2 => .int
  | 3 => .int
  | _ => .int
theorem nmX7 : ∀ a, a < 5 → ∀ b, b < 5 → a ≠ b → (TX7 a).2.1 ≠ (TX7 b).2.1 := by decide +kernel
theorem tyX7_ok : ∀ k, k < 5 → parseFieldDescriptor (TX7 k).2.2.1 = some (tyX7 k) := by decide +kernel
abbrev cX7_init : ByteArray := prog_9_method_1_code
def yX7_init : MethodName := ⟨RX7, "<init>", "()V"⟩
abbrev cX7_add : ByteArray := prog_9_method_2_code
def yX7_add : MethodName := ⟨RX7, "add", "(I)Z"⟩
abbrev cX7_empty : ByteArray := prog_9_method_3_code
def yX7_empty : MethodName := ⟨RX7, "empty", "()V"⟩
abbrev cX7_readInto : ByteArray := prog_9_method_4_code
def yX7_readInto : MethodName := ⟨RX7, "readInto", "(LTollDelay$Bridge;)V"⟩
abbrev cX7_nextLetter : ByteArray := prog_9_method_5_code
def yX7_nextLetter : MethodName := ⟨RX7, "nextLetter", "()I"⟩
abbrev cX7_skipBlanks : ByteArray := prog_9_method_6_code
def yX7_skipBlanks : MethodName := ⟨RX7, "skipBlanks", "()V"⟩
abbrev cX7_note : ByteArray := prog_9_method_7_code
def yX7_note : MethodName := ⟨RX7, "note", "(II)V"⟩
abbrev cX7_readClause : ByteArray := prog_9_method_8_code
def yX7_readClause : MethodName := ⟨RX7, "readClause", "(LTollDelay$Bridge;)V"⟩
abbrev cX7_faultOfWord : ByteArray := prog_9_method_9_code
def yX7_faultOfWord : MethodName := ⟨RX7, "faultOfWord", "(LTollDelay$Bridge;I)I"⟩
abbrev cX7_readRate : ByteArray := prog_9_method_10_code
def yX7_readRate : MethodName := ⟨RX7, "readRate", "(LTollDelay$Bridge;)V"⟩
abbrev cX7_readMatter : ByteArray := prog_9_method_11_code
def yX7_readMatter : MethodName := ⟨RX7, "readMatter", "(LTollDelay$Bridge;)V"⟩
abbrev cX7_readTraveller : ByteArray := prog_9_method_12_code
def yX7_readTraveller : MethodName := ⟨RX7, "readTraveller", "(LTollDelay$Bridge;)V"⟩
abbrev cX7_readNumber : ByteArray := prog_9_method_13_code
def yX7_readNumber : MethodName := ⟨RX7, "readNumber", "(II)I"⟩
abbrev cX7_isFigure : ByteArray := prog_9_method_14_code
def yX7_isFigure : MethodName := ⟨RX7, "isFigure", "(I)Z"⟩
abbrev cX7_readEnd : ByteArray := prog_9_method_15_code
def yX7_readEnd : MethodName := ⟨RX7, "readEnd", "()Z"⟩
def RX8 : String := "TollDelay$Talk"
def TX8 : u_T := fun k => match k with
  | 0 => ("TollDelay$Talk", "sums", "[I", true)
  | 1 => ("TollDelay$Talk", "minutes", "I", false)
  | 2 => ("TollDelay$Talk", "first", "I", false)
  | _ => ("TollDelay$Talk", "count", "I", false)
def tyX8 : Nat → FieldType := fun k => match k with
  | 0 => .array .int
  | 1 => .int
  | 2 => .int
  | _ => .int
theorem nmX8 : ∀ a, a < 4 → ∀ b, b < 4 → a ≠ b → (TX8 a).2.1 ≠ (TX8 b).2.1 := by decide +kernel
theorem tyX8_ok : ∀ k, k < 4 → parseFieldDescriptor (TX8 k).2.2.1 = some (tyX8 k) := by decide +kernel
abbrev cX8_init : ByteArray := prog_10_method_1_code
def yX8_init : MethodName := ⟨RX8, "<init>", "()V"⟩
abbrev cX8_tryWith : ByteArray := prog_10_method_2_code
def yX8_tryWith : MethodName := ⟨RX8, "tryWith", "(LTollDelay$Bridge;II)V"⟩
abbrev cX8_weigh : ByteArray := prog_10_method_3_code
def yX8_weigh : MethodName := ⟨RX8, "weigh", "(II)V"⟩
abbrev cX8_worthOfAll : ByteArray := prog_10_method_4_code
def yX8_worthOfAll : MethodName := ⟨RX8, "worthOfAll", "(LTollDelay$Bridge;I)I"⟩
abbrev cX8_bestToLearn : ByteArray := prog_10_method_5_code
def yX8_bestToLearn : MethodName := ⟨RX8, "bestToLearn", "(LTollDelay$Bridge;I)I"⟩
def RX9 : String := "TollDelay"
def TX9 : u_T := fun k => match k with
  | 0 => ("TollDelay", "reader", "LTollDelay$Reader;", true)
  | 1 => ("TollDelay", "evening", "LTollDelay$Evening;", true)
  | 2 => ("TollDelay", "past", "LTollDelay$Past;", true)
  | 3 => ("TollDelay", "images", "[LTollDelay$Image;", true)
  | 4 => ("TollDelay", "trial", "LTollDelay$Talk;", true)
  | 5 => ("TollDelay", "line", "LTollDelay$Line;", true)
  | 6 => ("TollDelay", "clues", "LTollDelay$Entries;", true)
  | 7 => ("TollDelay", "book", "LTollDelay$Entries;", true)
  | 8 => ("TollDelay", "stands", "LTollDelay$Bridge;", false)
  | 9 => ("TollDelay", "draft", "LTollDelay$Bridge;", false)
  | 10 => ("TollDelay", "drawn", "I", false)
  | _ => ("TollDelay", "faultAt", "I", false)
def tyX9 : Nat → FieldType := fun k => match k with
  | 0 => .object "TollDelay$Reader"
  | 1 => .object "TollDelay$Evening"
  | 2 => .object "TollDelay$Past"
  | 3 => .array (.object "TollDelay$Image")
  | 4 => .object "TollDelay$Talk"
  | 5 => .object "TollDelay$Line"
  | 6 => .object "TollDelay$Entries"
  | 7 => .object "TollDelay$Entries"
  | 8 => .object "TollDelay$Bridge"
  | 9 => .object "TollDelay$Bridge"
  | 10 => .int
  | _ => .int
theorem nmX9 : ∀ a, a < 12 → ∀ b, b < 12 → a ≠ b → (TX9 a).2.1 ≠ (TX9 b).2.1 := by decide +kernel
theorem tyX9_ok : ∀ k, k < 12 → parseFieldDescriptor (TX9 k).2.2.1 = some (tyX9 k) := by decide +kernel
abbrev cX9_init : ByteArray := prog_1_method_1_code
def yX9_init : MethodName := ⟨RX9, "<init>", "()V"⟩
abbrev cX9_feed : ByteArray := prog_1_method_2_code
def yX9_feed : MethodName := ⟨RX9, "feed", "(I)I"⟩
abbrev cX9_bridge : ByteArray := prog_1_method_3_code
def yX9_bridge : MethodName := ⟨RX9, "bridge", "()I"⟩
abbrev cX9_beginBridge : ByteArray := prog_1_method_4_code
def yX9_beginBridge : MethodName := ⟨RX9, "beginBridge", "()V"⟩
abbrev cX9_fault : ByteArray := prog_1_method_5_code
def yX9_fault : MethodName := ⟨RX9, "fault", "()I"⟩
abbrev cX9_told : ByteArray := prog_1_method_6_code
def yX9_told : MethodName := ⟨RX9, "told", "(I)I"⟩
abbrev cX9_toldOfEvening : ByteArray := prog_1_method_7_code
def yX9_toldOfEvening : MethodName := ⟨RX9, "toldOfEvening", "(I)I"⟩
abbrev cX9_matter : ByteArray := prog_1_method_8_code
def yX9_matter : MethodName := ⟨RX9, "matter", "(II)I"⟩
abbrev cX9_traveller : ByteArray := prog_1_method_9_code
def yX9_traveller : MethodName := ⟨RX9, "traveller", "(II)I"⟩
abbrev cX9_seat : ByteArray := prog_1_method_10_code
def yX9_seat : MethodName := ⟨RX9, "seat", "(I)I"⟩
abbrev cX9_tell : ByteArray := prog_1_method_11_code
def yX9_tell : MethodName := ⟨RX9, "tell", "(I)I"⟩
abbrev cX9_rise : ByteArray := prog_1_method_12_code
def yX9_rise : MethodName := ⟨RX9, "rise", "()I"⟩
abbrev cX9_learn : ByteArray := prog_1_method_13_code
def yX9_learn : MethodName := ⟨RX9, "learn", "(I)I"⟩
abbrev cX9_minute : ByteArray := prog_1_method_14_code
def yX9_minute : MethodName := ⟨RX9, "minute", "(I)I"⟩
abbrev cX9_anew : ByteArray := prog_1_method_15_code
def yX9_anew : MethodName := ⟨RX9, "anew", "()I"⟩
abbrev cX9_drift : ByteArray := prog_1_method_16_code
def yX9_drift : MethodName := ⟨RX9, "drift", "(I)I"⟩
abbrev cX9_driftOnce : ByteArray := prog_1_method_17_code
def yX9_driftOnce : MethodName := ⟨RX9, "driftOnce", "()V"⟩
abbrev cX9_drawSeat : ByteArray := prog_1_method_18_code
def yX9_drawSeat : MethodName := ⟨RX9, "drawSeat", "()V"⟩
abbrev cX9_drawTelling : ByteArray := prog_1_method_19_code
def yX9_drawTelling : MethodName := ⟨RX9, "drawTelling", "()V"⟩
abbrev cX9_drawOf : ByteArray := prog_1_method_20_code
def yX9_drawOf : MethodName := ⟨RX9, "drawOf", "(I)I"⟩
abbrev cX9_undo : ByteArray := prog_1_method_21_code
def yX9_undo : MethodName := ⟨RX9, "undo", "(I)I"⟩
abbrev cX9_stay : ByteArray := prog_1_method_22_code
def yX9_stay : MethodName := ⟨RX9, "stay", "(II)I"⟩
abbrev cX9_talk : ByteArray := prog_1_method_23_code
def yX9_talk : MethodName := ⟨RX9, "talk", "(II)I"⟩
abbrev cX9_queue : ByteArray := prog_1_method_24_code
def yX9_queue : MethodName := ⟨RX9, "queue", "(I)I"⟩
abbrev cX9_dry : ByteArray := prog_1_method_25_code
def yX9_dry : MethodName := ⟨RX9, "dry", "(II)I"⟩
abbrev cX9_stayed : ByteArray := prog_1_method_26_code
def yX9_stayed : MethodName := ⟨RX9, "stayed", "(II)I"⟩
abbrev cX9_couldBe : ByteArray := prog_1_method_27_code
def yX9_couldBe : MethodName := ⟨RX9, "couldBe", "()I"⟩
abbrev cX9_ask : ByteArray := prog_1_method_28_code
def yX9_ask : MethodName := ⟨RX9, "ask", "()I"⟩
abbrev cX9_write : ByteArray := prog_1_method_29_code
def yX9_write : MethodName := ⟨RX9, "write", "(II)I"⟩
abbrev cX9_judge : ByteArray := prog_1_method_30_code
def yX9_judge : MethodName := ⟨RX9, "judge", "()I"⟩
abbrev cX9_tear : ByteArray := prog_1_method_31_code
def yX9_tear : MethodName := ⟨RX9, "tear", "()I"⟩
abbrev cX9_seed : ByteArray := prog_1_method_32_code
def yX9_seed : MethodName := ⟨RX9, "seed", "(I)I"⟩
abbrev cX9_keep : ByteArray := prog_1_method_33_code
def yX9_keep : MethodName := ⟨RX9, "keep", "(I)I"⟩
abbrev cX9_goBack : ByteArray := prog_1_method_34_code
def yX9_goBack : MethodName := ⟨RX9, "goBack", "(I)I"⟩
abbrev cX9_holds : ByteArray := prog_1_method_35_code
def yX9_holds : MethodName := ⟨RX9, "holds", "(II)Z"⟩
abbrev cX9_setOfFirst : ByteArray := prog_1_method_36_code
def yX9_setOfFirst : MethodName := ⟨RX9, "setOfFirst", "(I)I"⟩
abbrev cX9_leastOf : ByteArray := prog_1_method_37_code
def yX9_leastOf : MethodName := ⟨RX9, "leastOf", "(I)I"⟩
def RX10 : String := "TollDelayModel"
def TX10 : u_T := fun k => match k with
  | 0 => ("TollDelayModel", "letterMany", "I", false)
  | 1 => ("TollDelayModel", "text", "[I", true)
  | 2 => ("TollDelayModel", "readAt", "I", false)
  | 3 => ("TollDelayModel", "numberAt", "I", false)
  | 4 => ("TollDelayModel", "readFault", "I", false)
  | 5 => ("TollDelayModel", "faultAt", "I", false)
  | 6 => ("TollDelayModel", "readQuarter", "I", false)
  | 7 => ("TollDelayModel", "readPence", "I", false)
  | 8 => ("TollDelayModel", "readMatters", "I", false)
  | 9 => ("TollDelayModel", "readTravellers", "I", false)
  | 10 => ("TollDelayModel", "readLong", "[I", true)
  | 11 => ("TollDelayModel", "readLeads", "[I", true)
  | 12 => ("TollDelayModel", "readKind", "[I", true)
  | 13 => ("TollDelayModel", "readHurry", "[I", true)
  | 14 => ("TollDelayModel", "readCannot", "[I", true)
  | 15 => ("TollDelayModel", "quarter", "I", false)
  | 16 => ("TollDelayModel", "pence", "I", false)
  | 17 => ("TollDelayModel", "m", "I", false)
  | 18 => ("TollDelayModel", "n", "I", false)
  | 19 => ("TollDelayModel", "longs", "[I", true)
  | 20 => ("TollDelayModel", "leads", "[I", true)
  | 21 => ("TollDelayModel", "kinds", "[I", true)
  | 22 => ("TollDelayModel", "hurries", "[I", true)
  | 23 => ("TollDelayModel", "cannots", "[I", true)
  | 24 => ("TollDelayModel", "now", "[I", true)
  | 25 => ("TollDelayModel", "undoMany", "I", false)
  | 26 => ("TollDelayModel", "undoAt", "I", false)
  | 27 => ("TollDelayModel", "undos", "[I", true)
  | 28 => ("TollDelayModel", "seeded", "J", false)
  | 29 => ("TollDelayModel", "begun", "[I", true)
  | 30 => ("TollDelayModel", "talkLong", "I", false)
  | 31 => ("TollDelayModel", "talkFirst", "I", false)
  | 32 => ("TollDelayModel", "talkMany", "I", false)
  | 33 => ("TollDelayModel", "lasts", "[I", true)
  | 34 => ("TollDelayModel", "stayedMany", "I", false)
  | 35 => ("TollDelayModel", "stayedOne", "[I", true)
  | 36 => ("TollDelayModel", "stayedLong", "[I", true)
  | 37 => ("TollDelayModel", "bookMany", "I", false)
  | 38 => ("TollDelayModel", "bookOne", "[I", true)
  | 39 => ("TollDelayModel", "bookSat", "[I", true)
  | 40 => ("TollDelayModel", "isKept", "[Z", true)
  | 41 => ("TollDelayModel", "kept", "[I", true)
  | _ => ("TollDelayModel", "keptSeed", "[J", true)
def tyX10 : Nat → FieldType := fun k => match k with
  | 0 => .int
  | 1 => .array .int
  | 2 => .int
  | 3 => .int
  | 4 => .int
  | 5 => .int
  | 6 => .int
  | 7 => .int
  | 8 => .int
  | 9 => .int
  | 10 => .array .int
  | 11 => .array .int
  | 12 => .array .int
  | 13 => .array .int
  | 14 => .array .int
  | 15 => .int
  | 16 => .int
  | 17 => .int
  | 18 => .int
  | 19 => .array .int
  | 20 => .array .int
  | 21 => .array .int
  | 22 => .array .int
  | 23 => .array .int
  | 24 => .array .int
  | 25 => .int
  | 26 => .int
  | 27 => .array .int
  | 28 => .long
  | 29 => .array .int
  | 30 => .int
  | 31 => .int
  | 32 => .int
  | 33 => .array .int
  | 34 => .int
  | 35 => .array .int
  | 36 => .array .int
  | 37 => .int
  | 38 => .array .int
  | 39 => .array .int
  | 40 => .array .boolean
  | 41 => .array .int
  | _ => .array .long
theorem nmX10 : ∀ a, a < 43 → ∀ b, b < 43 → a ≠ b → (TX10 a).2.1 ≠ (TX10 b).2.1 := by decide +kernel
theorem tyX10_ok : ∀ k, k < 43 → parseFieldDescriptor (TX10 k).2.2.1 = some (tyX10 k) := by decide +kernel
abbrev cX10_init : ByteArray := prog_12_method_1_code
def yX10_init : MethodName := ⟨RX10, "<init>", "()V"⟩
abbrev cX10_in : ByteArray := prog_12_method_2_code
def yX10_in : MethodName := ⟨RX10, "in", "(III)Z"⟩
abbrev cX10_has : ByteArray := prog_12_method_3_code
def yX10_has : MethodName := ⟨RX10, "has", "(II)Z"⟩
abbrev cX10_bits : ByteArray := prog_12_method_4_code
def yX10_bits : MethodName := ⟨RX10, "bits", "(I)I"⟩
abbrev cX10_feed : ByteArray := prog_12_method_5_code
def yX10_feed : MethodName := ⟨RX10, "feed", "(I)I"⟩
abbrev cX10_letterAt : ByteArray := prog_12_method_6_code
def yX10_letterAt : MethodName := ⟨RX10, "letterAt", "(I)I"⟩
abbrev cX10_nextLetter : ByteArray := prog_12_method_7_code
def yX10_nextLetter : MethodName := ⟨RX10, "nextLetter", "()I"⟩
abbrev cX10_fails : ByteArray := prog_12_method_8_code
def yX10_fails : MethodName := ⟨RX10, "fails", "(II)I"⟩
abbrev cX10_readsNumber : ByteArray := prog_12_method_9_code
def yX10_readsNumber : MethodName := ⟨RX10, "readsNumber", "(II)I"⟩
abbrev cX10_readsSign : ByteArray := prog_12_method_10_code
def yX10_readsSign : MethodName := ⟨RX10, "readsSign", "(I)Z"⟩
abbrev cX10_readsHead : ByteArray := prog_12_method_11_code
def yX10_readsHead : MethodName := ⟨RX10, "readsHead", "()Z"⟩
abbrev cX10_readsMatter : ByteArray := prog_12_method_12_code
def yX10_readsMatter : MethodName := ⟨RX10, "readsMatter", "()Z"⟩
abbrev cX10_readsTraveller : ByteArray := prog_12_method_13_code
def yX10_readsTraveller : MethodName := ⟨RX10, "readsTraveller", "()Z"⟩
abbrev cX10_readsClause : ByteArray := prog_12_method_14_code
def yX10_readsClause : MethodName := ⟨RX10, "readsClause", "()Z"⟩
abbrev cX10_readsBridge : ByteArray := prog_12_method_15_code
def yX10_readsBridge : MethodName := ⟨RX10, "readsBridge", "()Z"⟩
abbrev cX10_bridge : ByteArray := prog_12_method_16_code
def yX10_bridge : MethodName := ⟨RX10, "bridge", "()I"⟩
abbrev cX10_fault : ByteArray := prog_12_method_17_code
def yX10_fault : MethodName := ⟨RX10, "fault", "()I"⟩
abbrev cX10_isBridge : ByteArray := prog_12_method_18_code
def yX10_isBridge : MethodName := ⟨RX10, "isBridge", "()Z"⟩
abbrev cX10_isMatter : ByteArray := prog_12_method_19_code
def yX10_isMatter : MethodName := ⟨RX10, "isMatter", "(I)Z"⟩
abbrev cX10_isTraveller : ByteArray := prog_12_method_20_code
def yX10_isTraveller : MethodName := ⟨RX10, "isTraveller", "(I)Z"⟩
abbrev cX10_stayOf : ByteArray := prog_12_method_21_code
def yX10_stayOf : MethodName := ⟨RX10, "stayOf", "(II)I"⟩
abbrev cX10_limit : ByteArray := prog_12_method_22_code
def yX10_limit : MethodName := ⟨RX10, "limit", "(I)I"⟩
abbrev cX10_are : ByteArray := prog_12_method_23_code
def yX10_are : MethodName := ⟨RX10, "are", "(I)I"⟩
abbrev cX10_nobodys : ByteArray := prog_12_method_24_code
def yX10_nobodys : MethodName := ⟨RX10, "nobodys", "()I"⟩
abbrev cX10_longestSat : ByteArray := prog_12_method_25_code
def yX10_longestSat : MethodName := ⟨RX10, "longestSat", "()I"⟩
abbrev cX10_told : ByteArray := prog_12_method_26_code
def yX10_told : MethodName := ⟨RX10, "told", "(I)I"⟩
abbrev cX10_onward : ByteArray := prog_12_method_27_code
def yX10_onward : MethodName := ⟨RX10, "onward", "(I)I"⟩
abbrev cX10_leadsFrom : ByteArray := prog_12_method_28_code
def yX10_leadsFrom : MethodName := ⟨RX10, "leadsFrom", "(I)I"⟩
abbrev cX10_roundOf : ByteArray := prog_12_method_29_code
def yX10_roundOf : MethodName := ⟨RX10, "roundOf", "(I)I"⟩
abbrev cX10_matter : ByteArray := prog_12_method_30_code
def yX10_matter : MethodName := ⟨RX10, "matter", "(II)I"⟩
abbrev cX10_favourite : ByteArray := prog_12_method_31_code
def yX10_favourite : MethodName := ⟨RX10, "favourite", "(I)I"⟩
abbrev cX10_traveller : ByteArray := prog_12_method_32_code
def yX10_traveller : MethodName := ⟨RX10, "traveller", "(II)I"⟩
abbrev cX10_remember : ByteArray := prog_12_method_33_code
def yX10_remember : MethodName := ⟨RX10, "remember", "()V"⟩
abbrev cX10_passes : ByteArray := prog_12_method_34_code
def yX10_passes : MethodName := ⟨RX10, "passes", "(I)V"⟩
abbrev cX10_seats : ByteArray := prog_12_method_35_code
def yX10_seats : MethodName := ⟨RX10, "seats", "(I)V"⟩
abbrev cX10_seat : ByteArray := prog_12_method_36_code
def yX10_seat : MethodName := ⟨RX10, "seat", "(I)I"⟩
abbrev cX10_payFor : ByteArray := prog_12_method_37_code
def yX10_payFor : MethodName := ⟨RX10, "payFor", "(I)I"⟩
abbrev cX10_rises : ByteArray := prog_12_method_38_code
def yX10_rises : MethodName := ⟨RX10, "rises", "()I"⟩
abbrev cX10_tells : ByteArray := prog_12_method_39_code
def yX10_tells : MethodName := ⟨RX10, "tells", "(I)I"⟩
abbrev cX10_isTellable : ByteArray := prog_12_method_40_code
def yX10_isTellable : MethodName := ⟨RX10, "isTellable", "(I)Z"⟩
abbrev cX10_tell : ByteArray := prog_12_method_41_code
def yX10_tell : MethodName := ⟨RX10, "tell", "(I)I"⟩
abbrev cX10_rise : ByteArray := prog_12_method_42_code
def yX10_rise : MethodName := ⟨RX10, "rise", "()I"⟩
abbrev cX10_learn : ByteArray := prog_12_method_43_code
def yX10_learn : MethodName := ⟨RX10, "learn", "(I)I"⟩
abbrev cX10_minute : ByteArray := prog_12_method_44_code
def yX10_minute : MethodName := ⟨RX10, "minute", "(I)I"⟩
abbrev cX10_anew : ByteArray := prog_12_method_45_code
def yX10_anew : MethodName := ⟨RX10, "anew", "()I"⟩
abbrev cX10_draw : ByteArray := prog_12_method_46_code
def yX10_draw : MethodName := ⟨RX10, "draw", "(I)I"⟩
abbrev cX10_draws : ByteArray := prog_12_method_47_code
def yX10_draws : MethodName := ⟨RX10, "draws", "()V"⟩
abbrev cX10_drift : ByteArray := prog_12_method_48_code
def yX10_drift : MethodName := ⟨RX10, "drift", "(I)I"⟩
abbrev cX10_undo : ByteArray := prog_12_method_49_code
def yX10_undo : MethodName := ⟨RX10, "undo", "(I)I"⟩
abbrev cX10_stay : ByteArray := prog_12_method_50_code
def yX10_stay : MethodName := ⟨RX10, "stay", "(II)I"⟩
abbrev cX10_layTalks : ByteArray := prog_12_method_51_code
def yX10_layTalks : MethodName := ⟨RX10, "layTalks", "(I)V"⟩
abbrev cX10_layTalk : ByteArray := prog_12_method_52_code
def yX10_layTalk : MethodName := ⟨RX10, "layTalk", "(II)V"⟩
abbrev cX10_talk : ByteArray := prog_12_method_53_code
def yX10_talk : MethodName := ⟨RX10, "talk", "(II)I"⟩
abbrev cX10_worthOfAll : ByteArray := prog_12_method_54_code
def yX10_worthOfAll : MethodName := ⟨RX10, "worthOfAll", "(I)I"⟩
abbrev cX10_bestToLearn : ByteArray := prog_12_method_55_code
def yX10_bestToLearn : MethodName := ⟨RX10, "bestToLearn", "()I"⟩
abbrev cX10_paidBy : ByteArray := prog_12_method_56_code
def yX10_paidBy : MethodName := ⟨RX10, "paidBy", "(II)I"⟩
abbrev cX10_nextFigures : ByteArray := prog_12_method_57_code
def yX10_nextFigures : MethodName := ⟨RX10, "nextFigures", "(II)I"⟩
abbrev cX10_queue : ByteArray := prog_12_method_58_code
def yX10_queue : MethodName := ⟨RX10, "queue", "(I)I"⟩
abbrev cX10_dry : ByteArray := prog_12_method_59_code
def yX10_dry : MethodName := ⟨RX10, "dry", "(II)I"⟩
abbrev cX10_stayed : ByteArray := prog_12_method_60_code
def yX10_stayed : MethodName := ⟨RX10, "stayed", "(II)I"⟩
abbrev cX10_couldBe : ByteArray := prog_12_method_61_code
def yX10_couldBe : MethodName := ⟨RX10, "couldBe", "()I"⟩
abbrev cX10_alike : ByteArray := prog_12_method_62_code
def yX10_alike : MethodName := ⟨RX10, "alike", "(II)I"⟩
abbrev cX10_ask : ByteArray := prog_12_method_63_code
def yX10_ask : MethodName := ⟨RX10, "ask", "()I"⟩
abbrev cX10_write : ByteArray := prog_12_method_64_code
def yX10_write : MethodName := ⟨RX10, "write", "(II)I"⟩
abbrev cX10_judge : ByteArray := prog_12_method_65_code
def yX10_judge : MethodName := ⟨RX10, "judge", "()I"⟩
abbrev cX10_tear : ByteArray := prog_12_method_66_code
def yX10_tear : MethodName := ⟨RX10, "tear", "()I"⟩
abbrev cX10_seed : ByteArray := prog_12_method_67_code
def yX10_seed : MethodName := ⟨RX10, "seed", "(I)I"⟩
abbrev cX10_keep : ByteArray := prog_12_method_68_code
def yX10_keep : MethodName := ⟨RX10, "keep", "(I)I"⟩
abbrev cX10_goBack : ByteArray := prog_12_method_69_code
def yX10_goBack : MethodName := ⟨RX10, "goBack", "(I)I"⟩
def RJ6 : String := "java/lang/Integer"
def TJ6 : u_T := fun k => match k with
  | _ => ("", "", "", false)
def tyJ6 : Nat → FieldType := fun k => match k with
  | _ => .int
theorem nmJ6 : ∀ a, a < 0 → ∀ b, b < 0 → a ≠ b → (TJ6 a).2.1 ≠ (TJ6 b).2.1 := by decide +kernel
theorem tyJ6_ok : ∀ k, k < 0 → parseFieldDescriptor (TJ6 k).2.2.1 = some (tyJ6 k) := by decide +kernel
abbrev cJ6_bitCount_0f7a4 : ByteArray := prog_13_method_49_code
def yJ6_bitCount_0f7a4 : MethodName := ⟨RJ6, "bitCount", "(I)I"⟩
def RJ9 : String := "java/lang/Math"
def TJ9 : u_T := fun k => match k with
  | _ => ("", "", "", false)
def tyJ9 : Nat → FieldType := fun k => match k with
  | _ => .int
theorem nmJ9 : ∀ a, a < 0 → ∀ b, b < 0 → a ≠ b → (TJ9 a).2.1 ≠ (TJ9 b).2.1 := by decide +kernel
theorem tyJ9_ok : ∀ k, k < 0 → parseFieldDescriptor (TJ9 k).2.2.1 = some (tyJ9 k) := by decide +kernel
abbrev cJ9_max_7cf53 : ByteArray := prog_14_method_65_code
def yJ9_max_7cf53 : MethodName := ⟨RJ9, "max", "(II)I"⟩
abbrev cJ9_min_7cf53 : ByteArray := prog_14_method_69_code
def yJ9_min_7cf53 : MethodName := ⟨RJ9, "min", "(II)I"⟩
def RL : String := "TollDelayLaw"
abbrev cL_law : ByteArray := code
def yL_law : MethodName := ⟨RL, "law", "([I)Z"⟩
abbrev vwCl : List vw_C := [(RX1, TX1, 10), (RX2, TX2, 3), (RX3, TX3, 12), (RX4, TX4, 3), (RX5, TX5, 7), (RX6, TX6, 3), (RX7, TX7, 5), (RX8, TX8, 4), (RX9, TX9, 12), (RX10, TX10, 43)]
end
section
/-! THE MACHINE BY STATES: a heap is a function from places (counted from z) to cells; X says that the walk goes well from here on; Mt is a contract with its outcome given -/
abbrev HpT : Type := Nat → Option va_E
def hup (u : HpT) (k : Nat) (q : va_E) : HpT := fun j => if j = k then some q else u j
theorem hup_s (u : HpT) (k : Nat) (q : va_E) : hup u k q k = some q := by simp [hup]
theorem hup_n {u : HpT} {k j : Nat} {q : va_E} (h : j ≠ k) : hup u k q j = u j := by simp [hup, h]
theorem hup_n' {u : HpT} {k j : Nat} {q : va_E} {w : Option va_E} (h : j ≠ k) (hw : u j = w) : hup u k q j = w := by rw [hup_n h]; exact hw
theorem hup_hup (u : HpT) (k : Nat) (q q2 : va_E) : hup (hup u k q) k q2 = hup u k q2 := by
  funext j
  by_cases h : j = k
  · simp [hup, h]
  · simp [hup, h]
theorem hup_id {u : HpT} {k : Nat} {q : va_E} (h : u k = some q) : hup u k q = u := by
  funext j
  by_cases hj : j = k
  · subst hj
    rw [hup_s, h]
  · rw [hup_n hj]
theorem hup_comm {u : HpT} {k j : Nat} {q q2 : va_E} (h : k ≠ j) : hup (hup u k q) j q2 = hup (hup u j q2) k q := by
  funext i
  by_cases h1 : i = j
  · subst h1
    rw [hup_s, hup_n (Ne.symm h), hup_s]
  · rw [hup_n h1]
    by_cases h2 : i = k
    · subst h2
      rw [hup_s, hup_s]
    · rw [hup_n h2, hup_n h2, hup_n h1]
abbrev GT : Type := va_G × (Nat → ClassId)
abbrev gtys (G : GT) : List (ClassId × FieldType) := [(G.2 0, .int), (G.2 1, .boolean), (G.2 2, .long), (G.2 3, .object RX3), (G.2 4, .object RX4)]
def Kx (G : GT) (U : State) : Prop := va_K G.1 vwCl (gtys G) U ∧ va_AO RX3 U ∧ va_AO RX4 U ∧ ∀ (a : String) (i : Nat) (y : MethodName) (h : String), Cond.methodLinkNest a i y h ∈ lw_tbl → va_Nw (.methodLinkNest a i y h) U
theorem Kx.warm {G : GT} {s U : State} (hW : s.WarmedH U.vm) (h : Kx G s) : Kx G U := ⟨va_K.moved hW.alike h.1, va_AO.moved hW.alike h.2.1, va_AO.moved hW.alike h.2.2.1, fun a i y q hm => va_Nw.warmM hW (h.2.2.2 a i y q hm)⟩
theorem Kx.calling {G : GT} {U : State} {g : JFrame} {mk : MethodId} {a : Array Value} (h : Kx G U) : Kx G (U.calling g mk a) := ⟨va_K.moved (u := U) (U := U.calling g mk a) (Vm.Alike.refl U.vm) h.1, va_AO.moved (u := U) (U := U.calling g mk a) (Vm.Alike.refl U.vm) h.2.1, va_AO.moved (u := U) (U := U.calling g mk a) (Vm.Alike.refl U.vm) h.2.2.1, fun b i y q hm => va_Nw.same rfl rfl (h.2.2.2 b i y q hm)⟩
def lw_good : List Cond := lw_tbl.filter goodWord
theorem mem_good {w : Cond} (i : Nat) (h : lw_tbl[i]? = some w) (hg : goodWord w = true) : w ∈ lw_good := List.mem_filter.mpr ⟨List.mem_of_getElem? h, hg⟩
theorem in_good {ws : List Cond} (h : ∀ w ∈ ws, w ∈ lw_tbl) (hg : ws.all goodWord = true) : ∀ w ∈ ws, w ∈ lw_good := fun w hw => List.mem_filter.mpr ⟨h w hw, List.all_eq_true.mp hg w hw⟩
theorem goodIn_good {y : MethodName} {cc : ByteArray} {nL : Nat} {ret : Option FieldType} (h : Cond.code y cc nL ret ∈ lw_good) : GoodIn lw_good (Cond.code y cc nL ret :: lw_good) := by
  intro w hw
  rcases List.mem_cons.mp hw with rfl | hw
  · exact ⟨h, good_of_word (List.mem_filter.mp h).2⟩
  · exact ⟨hw, good_of_word (List.mem_filter.mp hw).2⟩
def Hd (G : GT) (z : Nat) (u : HpT) (n : Nat) (H : Heap) : Prop := H.size = z + n ∧ ∀ (k : Nat) (q : va_E), u k = some q → va_at G.1 vwCl (z + k, q) H
def zA (z : Nat) : Nat → Prop := fun q => z ≤ q
/-- an array of ints, of booleans, of longs, of references -/
abbrev aI (G : GT) (n : Nat) (f : Nat → Int32) : va_E := .inl (G.2 0, n, .inl f)
abbrev aZ (G : GT) (n : Nat) (f : Nat → Int32) : va_E := .inl (G.2 1, n, .inl f)
abbrev aL (G : GT) (n : Nat) (f : Nat → Int64) : va_E := .inl (G.2 2, n, .inr (.inl f))
abbrev aE (G : GT) (n : Nat) (f : Nat → Option Nat) : va_E := .inl (G.2 3, n, .inr (.inr (.inr (.inr f))))
abbrev aM (G : GT) (n : Nat) (f : Nat → Option Nat) : va_E := .inl (G.2 4, n, .inr (.inr (.inr (.inr f))))
def Cx (p : Program) (s : State) (m : MethodId) (args : Array Value) (c : Code) (G : GT) (own : String) (cc : ByteArray) (nL z : Nat) : Prop :=
  p.tables.exec = Jvm.exec ∧ c.code = cc ∧ c.maxLocals = nL ∧ s.vm.findClass own = some m.cls ∧ (∀ w ∈ lw_good, w.before args s = true) ∧ Kx G s ∧ z ≤ s.heap.size
def Xw (p : Program) (l : Launch) (e : Env) (R : Room) (s : State) (m : MethodId) (args : Array Value) (below : List Frame) (meth : Method) (c : Code) (G : GT) (z nL : Nat) (Z : State → Prop) (pc : Nat) (lo : List (Nat × Value)) (st : List Value) (u : HpT) (n kc ks : Nat) : Prop :=
  ∀ (H : Heap) (locs : List Loc) (ls : Array Slot), lv_has ls nL lo → Hd G z u n H → va_S (zA z) s.heap H locs → W p l e R s m args below meth c H locs kc ks Z (F0 m pc ls st)
def wsY (y : MethodName) (cc : ByteArray) (nL : Nat) (ret : Option FieldType) : List Cond := Cond.code y cc nL ret :: lw_good
def Qm (G : GT) (z : Nat) (r : Option Value) (u : HpT) (n : Nat) : Array Value → State → Outcome → State → Prop := fun _ st oc t => (oc = .returned r ∧ Hd G z u n t.heap) ∧ va_F (zA z) st t
def Mt (G : GT) (l : Launch) (z : Nat) (y : MethodName) (cc : ByteArray) (nL : Nat) (ret : Option FieldType) (rm : Room) (av : List Value) (u : HpT) (n : Nat) (r : Option Value) (u' : HpT) (n' : Nat) : Prop :=
  Met l y (wsY y cc nL ret) rm (va_Pc av (fun U => Hd G z u n U.heap ∧ Kx G U)) (Qm G z r u' n') rm.cells rm.slots (zA z)
theorem Hd.upd {G : GT} {z n a : Nat} {u : HpT} {q : va_E} {H H1 : Heap} (h : Hd G z u n H) (hz : H1.size = H.size) (ho : ∀ x : Nat, x ≠ z + a → H1[x]? = H[x]?) (hq : va_at G.1 vwCl (z + a, q) H1) : Hd G z (hup u a q) n H1 := by
  refine ⟨hz.trans h.1, fun k e hk => ?_⟩
  by_cases hka : k = a
  · subst hka
    rw [hup_s] at hk
    cases hk
    exact hq
  · rw [hup_n hka] at hk
    exact (h.2 k e hk).kept (ho _ (by show z + k ≠ z + a; omega))
theorem Hd.one {G : GT} {z n a : Nat} {u : HpT} {q : va_E} {H : Heap} (h : Hd G z u n H) (hq : u a = some q) : va_P G.1 vwCl [(z + a, q)] H := by
  intro k x hx
  have hz : k < 1 := (List.getElem?_eq_some_iff.mp hx).1
  rw [show k = 0 by omega] at hx
  cases hx
  exact h.2 a q hq
theorem mt_of {G : GT} {l : Launch} {z : Nat} {y : MethodName} {cc : ByteArray} {nL : Nat} {ret : Option FieldType} {rm : Room} {av : List Value} {u : HpT} {n : Nat} {r : Option Value} {u' : HpT} {n' : Nat} (hy : plainName y.cls = true) (hlen : (lg_sl av).length ≤ nL)
    (body : ∀ (p : Program) (e : Env) (s : State) (m : MethodId) (below : List Frame) (meth : Method) (c : Code), Cx p s m av.toArray c G y.cls cc nL z → meth.sig.returnType = ret → meth.locks = false → meth.name = y.name →
      Xw p l e rm s m av.toArray below meth c G z nL (MQ below (Qm G z r u' n') av.toArray s rm.cells rm.slots (zA z)) 0 (lv_args 0 av) [] u n 0 0) : Mt G l z y cc nL ret rm av u n r u' n' := by
  refine Met.ofW (cc := cc) (maxL := nL) (ret := ret) hy rfl ?_
  intro p e s m args below meth c s₁ B hml hv
  obtain ⟨rfl, hH, hK⟩ := hv
  have hts := atoms_spec (ws := wsY y cc nL ret) B.pre
  rw [lg_entry_eq]
  exact body p e s m below meth c ⟨B.exec, B.bytes, hml, findClass_of_methodNamed B.named, fun w hw => hts w (List.mem_cons_of_mem _ hw), hK, by rw [hH.1]; omega⟩ B.returns B.notSynchronized (name_of_methodNamed B.named B.method).1 s.heap [] _ (lv_entry av hlen) hH va_S.rf
section XR
variable {p : Program} {l : Launch} {e : Env} {R : Room} {s : State} {m : MethodId} {args : Array Value} {below : List Frame} {meth : Method} {c : Code} {G : GT} {z nL : Nat} {Z : State → Prop} {pc : Nat} {lo : List (Nat × Value)} {st : List Value} {u : HpT} {n kc ks : Nat} {own : String} {cc : ByteArray}
theorem x_iadd (C : Cx p s m args c G own cc nL z) {x y : Int32} (d : decode cc pc = .ok (.iadd, 1)) (k : Xw p l e R s m args below meth c G z nL Z (pc + 1) lo (.int (x + y) :: st) u n kc ks) : Xw p l e R s m args below meth c G z nL Z pc lo (.int y :: .int x :: st) u n kc ks := fun H locs ls hl hH hS => lv_iadd C.1 C.2.1 d (k H locs ls hl hH hS)
theorem x_isub (C : Cx p s m args c G own cc nL z) {x y : Int32} (d : decode cc pc = .ok (.isub, 1)) (k : Xw p l e R s m args below meth c G z nL Z (pc + 1) lo (.int (x - y) :: st) u n kc ks) : Xw p l e R s m args below meth c G z nL Z pc lo (.int y :: .int x :: st) u n kc ks := fun H locs ls hl hH hS => lv_isub C.1 C.2.1 d (k H locs ls hl hH hS)
theorem x_imul (C : Cx p s m args c G own cc nL z) {x y : Int32} (d : decode cc pc = .ok (.imul, 1)) (k : Xw p l e R s m args below meth c G z nL Z (pc + 1) lo (.int (x * y) :: st) u n kc ks) : Xw p l e R s m args below meth c G z nL Z pc lo (.int y :: .int x :: st) u n kc ks := fun H locs ls hl hH hS => lv_imul C.1 C.2.1 d (k H locs ls hl hH hS)
theorem x_iand (C : Cx p s m args c G own cc nL z) {x y : Int32} (d : decode cc pc = .ok (.iand, 1)) (k : Xw p l e R s m args below meth c G z nL Z (pc + 1) lo (.int (x &&& y) :: st) u n kc ks) : Xw p l e R s m args below meth c G z nL Z pc lo (.int y :: .int x :: st) u n kc ks := fun H locs ls hl hH hS => lv_iand C.1 C.2.1 d (k H locs ls hl hH hS)
theorem x_ior (C : Cx p s m args c G own cc nL z) {x y : Int32} (d : decode cc pc = .ok (.ior, 1)) (k : Xw p l e R s m args below meth c G z nL Z (pc + 1) lo (.int (x ||| y) :: st) u n kc ks) : Xw p l e R s m args below meth c G z nL Z pc lo (.int y :: .int x :: st) u n kc ks := fun H locs ls hl hH hS => lv_ior C.1 C.2.1 d (k H locs ls hl hH hS)
theorem x_ixor (C : Cx p s m args c G own cc nL z) {x y : Int32} (d : decode cc pc = .ok (.ixor, 1)) (k : Xw p l e R s m args below meth c G z nL Z (pc + 1) lo (.int (x ^^^ y) :: st) u n kc ks) : Xw p l e R s m args below meth c G z nL Z pc lo (.int y :: .int x :: st) u n kc ks := fun H locs ls hl hH hS => lv_ixor C.1 C.2.1 d (k H locs ls hl hH hS)
theorem x_ishl (C : Cx p s m args c G own cc nL z) {x y : Int32} (d : decode cc pc = .ok (.ishl, 1)) (k : Xw p l e R s m args below meth c G z nL Z (pc + 1) lo (.int (x <<< (y &&& 31)) :: st) u n kc ks) : Xw p l e R s m args below meth c G z nL Z pc lo (.int y :: .int x :: st) u n kc ks := fun H locs ls hl hH hS => lv_ishl C.1 C.2.1 d (k H locs ls hl hH hS)
theorem x_ishr (C : Cx p s m args c G own cc nL z) {x y : Int32} (d : decode cc pc = .ok (.ishr, 1)) (k : Xw p l e R s m args below meth c G z nL Z (pc + 1) lo (.int (x >>> (y &&& 31)) :: st) u n kc ks) : Xw p l e R s m args below meth c G z nL Z pc lo (.int y :: .int x :: st) u n kc ks := fun H locs ls hl hH hS => lv_ishr C.1 C.2.1 d (k H locs ls hl hH hS)
theorem x_iushr (C : Cx p s m args c G own cc nL z) {x y : Int32} (d : decode cc pc = .ok (.iushr, 1)) (k : Xw p l e R s m args below meth c G z nL Z (pc + 1) lo (.int ((x.toUInt32 >>> (y.toUInt32 &&& Int32.toUInt32 31)).toInt32) :: st) u n kc ks) : Xw p l e R s m args below meth c G z nL Z pc lo (.int y :: .int x :: st) u n kc ks := fun H locs ls hl hH hS => lv_iushr C.1 C.2.1 d rfl (k H locs ls hl hH hS)
theorem x_idiv (C : Cx p s m args c G own cc nL z) {x y : Int32} (d : decode cc pc = .ok (.idiv, 1)) (hne : ¬ y = 0) (k : Xw p l e R s m args below meth c G z nL Z (pc + 1) lo (.int (x / y) :: st) u n kc ks) : Xw p l e R s m args below meth c G z nL Z pc lo (.int y :: .int x :: st) u n kc ks := fun H locs ls hl hH hS => lv_idiv C.1 C.2.1 d hne (k H locs ls hl hH hS)
theorem x_irem (C : Cx p s m args c G own cc nL z) {x y : Int32} (d : decode cc pc = .ok (.irem, 1)) (hne : ¬ y = 0) (k : Xw p l e R s m args below meth c G z nL Z (pc + 1) lo (.int (x - x / y * y) :: st) u n kc ks) : Xw p l e R s m args below meth c G z nL Z pc lo (.int y :: .int x :: st) u n kc ks := fun H locs ls hl hH hS => lv_irem C.1 C.2.1 d hne (k H locs ls hl hH hS)
theorem x_ldiv (C : Cx p s m args c G own cc nL z) {x y : Int64} (d : decode cc pc = .ok (.ldiv, 1)) (hne : ¬ y = 0) (k : Xw p l e R s m args below meth c G z nL Z (pc + 1) lo (.long (x / y) :: st) u n kc ks) : Xw p l e R s m args below meth c G z nL Z pc lo (.long y :: .long x :: st) u n kc ks := fun H locs ls hl hH hS => lv_ldiv C.1 C.2.1 d hne (k H locs ls hl hH hS)
theorem x_lrem (C : Cx p s m args c G own cc nL z) {x y : Int64} (d : decode cc pc = .ok (.lrem, 1)) (hne : ¬ y = 0) (k : Xw p l e R s m args below meth c G z nL Z (pc + 1) lo (.long (x - x / y * y) :: st) u n kc ks) : Xw p l e R s m args below meth c G z nL Z pc lo (.long y :: .long x :: st) u n kc ks := fun H locs ls hl hH hS => lv_lrem C.1 C.2.1 d hne (k H locs ls hl hH hS)
theorem x_ladd (C : Cx p s m args c G own cc nL z) {x y : Int64} (d : decode cc pc = .ok (.ladd, 1)) (k : Xw p l e R s m args below meth c G z nL Z (pc + 1) lo (.long (x + y) :: st) u n kc ks) : Xw p l e R s m args below meth c G z nL Z pc lo (.long y :: .long x :: st) u n kc ks := fun H locs ls hl hH hS => lv_ladd C.1 C.2.1 d (k H locs ls hl hH hS)
theorem x_lmul (C : Cx p s m args c G own cc nL z) {x y : Int64} (d : decode cc pc = .ok (.lmul, 1)) (k : Xw p l e R s m args below meth c G z nL Z (pc + 1) lo (.long (x * y) :: st) u n kc ks) : Xw p l e R s m args below meth c G z nL Z pc lo (.long y :: .long x :: st) u n kc ks := fun H locs ls hl hH hS => lv_lmul C.1 C.2.1 d (k H locs ls hl hH hS)
theorem x_ineg (C : Cx p s m args c G own cc nL z) {x : Int32} (d : decode cc pc = .ok (.ineg, 1)) (k : Xw p l e R s m args below meth c G z nL Z (pc + 1) lo (.int (-x) :: st) u n kc ks) : Xw p l e R s m args below meth c G z nL Z pc lo (.int x :: st) u n kc ks := fun H locs ls hl hH hS => lv_ineg C.1 C.2.1 d (k H locs ls hl hH hS)
theorem x_i2l (C : Cx p s m args c G own cc nL z) {x : Int32} (d : decode cc pc = .ok (.i2l, 1)) (k : Xw p l e R s m args below meth c G z nL Z (pc + 1) lo (.long x.toInt64 :: st) u n kc ks) : Xw p l e R s m args below meth c G z nL Z pc lo (.int x :: st) u n kc ks := fun H locs ls hl hH hS => lv_i2l C.1 C.2.1 d rfl (k H locs ls hl hH hS)
theorem x_l2i (C : Cx p s m args c G own cc nL z) {x : Int64} (d : decode cc pc = .ok (.l2i, 1)) (k : Xw p l e R s m args below meth c G z nL Z (pc + 1) lo (.int x.toInt32 :: st) u n kc ks) : Xw p l e R s m args below meth c G z nL Z pc lo (.long x :: st) u n kc ks := fun H locs ls hl hH hS => lv_l2i C.1 C.2.1 d rfl (k H locs ls hl hH hS)
theorem x_dup (C : Cx p s m args c G own cc nL z) {va : Value} (d : decode cc pc = .ok (.dup, 1)) (hva : va.category = 1) (k : Xw p l e R s m args below meth c G z nL Z (pc + 1) lo (va :: va :: st) u n kc ks) : Xw p l e R s m args below meth c G z nL Z pc lo (va :: st) u n kc ks := fun H locs ls hl hH hS => lv_dup C.1 C.2.1 d hva (k H locs ls hl hH hS)
theorem x_pop (C : Cx p s m args c G own cc nL z) {va : Value} (d : decode cc pc = .ok (.pop, 1)) (hva : va.category = 1) (k : Xw p l e R s m args below meth c G z nL Z (pc + 1) lo (st) u n kc ks) : Xw p l e R s m args below meth c G z nL Z pc lo (va :: st) u n kc ks := fun H locs ls hl hH hS => lv_pop C.1 C.2.1 d hva (k H locs ls hl hH hS)
theorem x_dup2 (C : Cx p s m args c G own cc nL z) {va vb : Value} (d : decode cc pc = .ok (.dup2, 1)) (hva : va.category = 1) (hvb : vb.category = 1) (k : Xw p l e R s m args below meth c G z nL Z (pc + 1) lo (va :: vb :: va :: vb :: st) u n kc ks) : Xw p l e R s m args below meth c G z nL Z pc lo (va :: vb :: st) u n kc ks := fun H locs ls hl hH hS => lv_dup2_11 C.1 C.2.1 d hva hvb (k H locs ls hl hH hS)
theorem x_iconst (C : Cx p s m args c G own cc nL z) {k0 : Int} {v : Int32} (d : decode cc pc = .ok (.iconst k0, 1)) (hv : Int32.ofInt k0 = v) (k : Xw p l e R s m args below meth c G z nL Z (pc + 1) lo (.int v :: st) u n kc ks) : Xw p l e R s m args below meth c G z nL Z pc lo (st) u n kc ks := fun H locs ls hl hH hS => lv_iconst C.1 C.2.1 d hv (k H locs ls hl hH hS)
theorem x_bipush (C : Cx p s m args c G own cc nL z) {k0 : Int} {v : Int32} (d : decode cc pc = .ok (.bipush k0, 2)) (hv : (Int8.ofInt k0).toInt32 = v) (k : Xw p l e R s m args below meth c G z nL Z (pc + 2) lo (.int v :: st) u n kc ks) : Xw p l e R s m args below meth c G z nL Z pc lo (st) u n kc ks := fun H locs ls hl hH hS => lv_bipush C.1 C.2.1 d hv (k H locs ls hl hH hS)
theorem x_sipush (C : Cx p s m args c G own cc nL z) {k0 : Int} {v : Int32} (d : decode cc pc = .ok (.sipush k0, 3)) (hv : (Int16.ofInt k0).toInt32 = v) (k : Xw p l e R s m args below meth c G z nL Z (pc + 3) lo (.int v :: st) u n kc ks) : Xw p l e R s m args below meth c G z nL Z pc lo (st) u n kc ks := fun H locs ls hl hH hS => lv_sipush C.1 C.2.1 d hv (k H locs ls hl hH hS)
theorem x_iload_n (C : Cx p s m args c G own cc nL z) (j : Nat) {k0 : Fin 4} {i : Nat} {x : Int32} (d : decode cc pc = .ok (.iload_n k0, 1)) (hi : (k0 : Nat) = i) (hj : lo[j]? = some (i, .int x)) (k : Xw p l e R s m args below meth c G z nL Z (pc + 1) lo (.int x :: st) u n kc ks) : Xw p l e R s m args below meth c G z nL Z pc lo st u n kc ks := fun H locs ls hl hH hS => lv_iload_n C.1 C.2.1 d hi (lv_at hl j hj) (k H locs ls hl hH hS)
theorem x_iload (C : Cx p s m args c G own cc nL z) (j : Nat) {i : Nat} {x : Int32} (d : decode cc pc = .ok (.iload i, 2)) (hj : lo[j]? = some (i, .int x)) (k : Xw p l e R s m args below meth c G z nL Z (pc + 2) lo (.int x :: st) u n kc ks) : Xw p l e R s m args below meth c G z nL Z pc lo st u n kc ks := fun H locs ls hl hH hS => lv_iload C.1 C.2.1 d (lv_at hl j hj) (k H locs ls hl hH hS)
theorem x_istore_n (C : Cx p s m args c G own cc nL z) (lo2 : List (Nat × Value)) {k0 : Fin 4} {i : Nat} {x : Int32} (d : decode cc pc = .ok (.istore_n k0, 1)) (hi : (k0 : Nat) = i) (hn : i < nL) (h2 : (i, Value.int x) :: lo.filter (fun q => !(q.1 == i) && !(q.1 + 1 == i && q.2.category == 2)) = lo2) (k : Xw p l e R s m args below meth c G z nL Z (pc + 1) lo2 st u n kc ks) : Xw p l e R s m args below meth c G z nL Z pc lo (.int x :: st) u n kc ks := fun H locs ls hl hH hS => lv_istore_n C.1 C.2.1 d hi hl hn h2 (fun ls hl => k H locs ls hl hH hS)
theorem x_istore (C : Cx p s m args c G own cc nL z) (lo2 : List (Nat × Value)) {i : Nat} {x : Int32} (d : decode cc pc = .ok (.istore i, 2)) (hn : i < nL) (h2 : (i, Value.int x) :: lo.filter (fun q => !(q.1 == i) && !(q.1 + 1 == i && q.2.category == 2)) = lo2) (k : Xw p l e R s m args below meth c G z nL Z (pc + 2) lo2 st u n kc ks) : Xw p l e R s m args below meth c G z nL Z pc lo (.int x :: st) u n kc ks := fun H locs ls hl hH hS => lv_istore C.1 C.2.1 d hl hn h2 (fun ls hl => k H locs ls hl hH hS)
theorem x_lload_n (C : Cx p s m args c G own cc nL z) (j : Nat) {k0 : Fin 4} {i : Nat} {x : Int64} (d : decode cc pc = .ok (.lload_n k0, 1)) (hi : (k0 : Nat) = i) (hj : lo[j]? = some (i, .long x)) (k : Xw p l e R s m args below meth c G z nL Z (pc + 1) lo (.long x :: st) u n kc ks) : Xw p l e R s m args below meth c G z nL Z pc lo st u n kc ks := fun H locs ls hl hH hS => lv_lload_n C.1 C.2.1 d hi (lv_at hl j hj) (k H locs ls hl hH hS)
theorem x_lload (C : Cx p s m args c G own cc nL z) (j : Nat) {i : Nat} {x : Int64} (d : decode cc pc = .ok (.lload i, 2)) (hj : lo[j]? = some (i, .long x)) (k : Xw p l e R s m args below meth c G z nL Z (pc + 2) lo (.long x :: st) u n kc ks) : Xw p l e R s m args below meth c G z nL Z pc lo st u n kc ks := fun H locs ls hl hH hS => lv_lload C.1 C.2.1 d (lv_at hl j hj) (k H locs ls hl hH hS)
theorem x_lstore_n (C : Cx p s m args c G own cc nL z) (lo2 : List (Nat × Value)) {k0 : Fin 4} {i : Nat} {x : Int64} (d : decode cc pc = .ok (.lstore_n k0, 1)) (hi : (k0 : Nat) = i) (hn : i + 1 < nL) (h2 : (i, Value.long x) :: lo.filter (fun q => !(q.1 == i) && (!(q.1 == i + 1) && !(q.1 + 1 == i && q.2.category == 2))) = lo2) (k : Xw p l e R s m args below meth c G z nL Z (pc + 1) lo2 st u n kc ks) : Xw p l e R s m args below meth c G z nL Z pc lo (.long x :: st) u n kc ks := fun H locs ls hl hH hS => lv_lstore_n C.1 C.2.1 d hi hl hn h2 (fun ls hl => k H locs ls hl hH hS)
theorem x_lstore (C : Cx p s m args c G own cc nL z) (lo2 : List (Nat × Value)) {i : Nat} {x : Int64} (d : decode cc pc = .ok (.lstore i, 2)) (hn : i + 1 < nL) (h2 : (i, Value.long x) :: lo.filter (fun q => !(q.1 == i) && (!(q.1 == i + 1) && !(q.1 + 1 == i && q.2.category == 2))) = lo2) (k : Xw p l e R s m args below meth c G z nL Z (pc + 2) lo2 st u n kc ks) : Xw p l e R s m args below meth c G z nL Z pc lo (.long x :: st) u n kc ks := fun H locs ls hl hH hS => lv_lstore C.1 C.2.1 d hl hn h2 (fun ls hl => k H locs ls hl hH hS)
theorem x_aload_n (C : Cx p s m args c G own cc nL z) (j : Nat) {k0 : Fin 4} {i : Nat} {x : Nat} (d : decode cc pc = .ok (.aload_n k0, 1)) (hi : (k0 : Nat) = i) (hj : lo[j]? = some (i, .ref x)) (k : Xw p l e R s m args below meth c G z nL Z (pc + 1) lo (.ref x :: st) u n kc ks) : Xw p l e R s m args below meth c G z nL Z pc lo st u n kc ks := fun H locs ls hl hH hS => lv_aload_n C.1 C.2.1 d hi (lv_at hl j hj) (k H locs ls hl hH hS)
theorem x_aload (C : Cx p s m args c G own cc nL z) (j : Nat) {i : Nat} {x : Nat} (d : decode cc pc = .ok (.aload i, 2)) (hj : lo[j]? = some (i, .ref x)) (k : Xw p l e R s m args below meth c G z nL Z (pc + 2) lo (.ref x :: st) u n kc ks) : Xw p l e R s m args below meth c G z nL Z pc lo st u n kc ks := fun H locs ls hl hH hS => lv_aload C.1 C.2.1 d (lv_at hl j hj) (k H locs ls hl hH hS)
theorem x_astore_n (C : Cx p s m args c G own cc nL z) (lo2 : List (Nat × Value)) {k0 : Fin 4} {i : Nat} {x : Nat} (d : decode cc pc = .ok (.astore_n k0, 1)) (hi : (k0 : Nat) = i) (hn : i < nL) (h2 : (i, Value.ref x) :: lo.filter (fun q => !(q.1 == i) && !(q.1 + 1 == i && q.2.category == 2)) = lo2) (k : Xw p l e R s m args below meth c G z nL Z (pc + 1) lo2 st u n kc ks) : Xw p l e R s m args below meth c G z nL Z pc lo (.ref x :: st) u n kc ks := fun H locs ls hl hH hS => lv_astore_n C.1 C.2.1 d hi hl hn h2 (fun ls hl => k H locs ls hl hH hS)
theorem x_astore (C : Cx p s m args c G own cc nL z) (lo2 : List (Nat × Value)) {i : Nat} {x : Nat} (d : decode cc pc = .ok (.astore i, 2)) (hn : i < nL) (h2 : (i, Value.ref x) :: lo.filter (fun q => !(q.1 == i) && !(q.1 + 1 == i && q.2.category == 2)) = lo2) (k : Xw p l e R s m args below meth c G z nL Z (pc + 2) lo2 st u n kc ks) : Xw p l e R s m args below meth c G z nL Z pc lo (.ref x :: st) u n kc ks := fun H locs ls hl hH hS => lv_astore C.1 C.2.1 d hl hn h2 (fun ls hl => k H locs ls hl hH hS)
theorem x_iinc (C : Cx p s m args c G own cc nL z) (j : Nat) (lo2 : List (Nat × Value)) {i : Nat} {k0 : Int} {x v : Int32} (d : decode cc pc = .ok (.iinc i k0, 3)) (hj : lo[j]? = some (i, .int x)) (hv : x + Int32.ofInt k0 = v) (hn : i < nL) (h2 : (i, Value.int v) :: lo.filter (fun q => !(q.1 == i) && !(q.1 + 1 == i && q.2.category == 2)) = lo2) (k : Xw p l e R s m args below meth c G z nL Z (pc + 3) lo2 st u n kc ks) : Xw p l e R s m args below meth c G z nL Z pc lo st u n kc ks := fun H locs ls hl hH hS => lv_iinc C.1 C.2.1 d hl hj hv hn h2 (fun ls hl => k H locs ls hl hH hS)
theorem x_icmp_eq (C : Cx p s m args c G own cc nL z) {x y : Int32} {off : Int} (tgt : Nat) (d : decode cc pc = .ok (.if_icmp .eq off, 3)) (ht : (pc : Int) + off = (tgt : Int)) (kt : x = y → Xw p l e R s m args below meth c G z nL Z tgt lo st u n kc ks) (kf : ¬ x = y → Xw p l e R s m args below meth c G z nL Z (pc + 3) lo st u n kc ks) : Xw p l e R s m args below meth c G z nL Z pc lo (.int y :: .int x :: st) u n kc ks := fun H locs ls hl hH hS => lv_icmp_eq C.1 C.2.1 d ht (fun h => kt h H locs ls hl hH hS) (fun h => kf h H locs ls hl hH hS)
theorem x_icmp_eq_t (C : Cx p s m args c G own cc nL z) {x y : Int32} {off : Int} (tgt : Nat) (d : decode cc pc = .ok (.if_icmp .eq off, 3)) (ht : (pc : Int) + off = (tgt : Int)) (h : x = y) (kt : Xw p l e R s m args below meth c G z nL Z tgt lo st u n kc ks) : Xw p l e R s m args below meth c G z nL Z pc lo (.int y :: .int x :: st) u n kc ks := fun H locs ls hl hH hS => lv_icmp_eq C.1 C.2.1 d ht (fun _ => kt H locs ls hl hH hS) (fun h9 => absurd h (by first | exact h9 | exact fun q => q h9))
theorem x_icmp_eq_f (C : Cx p s m args c G own cc nL z) {x y : Int32} {off : Int} (tgt : Nat) (d : decode cc pc = .ok (.if_icmp .eq off, 3)) (ht : (pc : Int) + off = (tgt : Int)) (h : ¬ x = y) (kf : Xw p l e R s m args below meth c G z nL Z (pc + 3) lo st u n kc ks) : Xw p l e R s m args below meth c G z nL Z pc lo (.int y :: .int x :: st) u n kc ks := fun H locs ls hl hH hS => lv_icmp_eq C.1 C.2.1 d ht (fun h9 => absurd h9 (by first | exact h | exact fun q => q h)) (fun _ => kf H locs ls hl hH hS)
theorem x_if_eq (C : Cx p s m args c G own cc nL z) {x : Int32} {off : Int} (tgt : Nat) (d : decode cc pc = .ok (.ifCond .eq off, 3)) (ht : (pc : Int) + off = (tgt : Int)) (kt : x = 0 → Xw p l e R s m args below meth c G z nL Z tgt lo st u n kc ks) (kf : ¬ x = 0 → Xw p l e R s m args below meth c G z nL Z (pc + 3) lo st u n kc ks) : Xw p l e R s m args below meth c G z nL Z pc lo (.int x :: st) u n kc ks := fun H locs ls hl hH hS => lv_if_eq C.1 C.2.1 d ht (fun h => kt h H locs ls hl hH hS) (fun h => kf h H locs ls hl hH hS)
theorem x_if_eq_t (C : Cx p s m args c G own cc nL z) {x : Int32} {off : Int} (tgt : Nat) (d : decode cc pc = .ok (.ifCond .eq off, 3)) (ht : (pc : Int) + off = (tgt : Int)) (h : x = 0) (kt : Xw p l e R s m args below meth c G z nL Z tgt lo st u n kc ks) : Xw p l e R s m args below meth c G z nL Z pc lo (.int x :: st) u n kc ks := fun H locs ls hl hH hS => lv_if_eq C.1 C.2.1 d ht (fun _ => kt H locs ls hl hH hS) (fun h9 => absurd h (by first | exact h9 | exact fun q => q h9))
theorem x_if_eq_f (C : Cx p s m args c G own cc nL z) {x : Int32} {off : Int} (tgt : Nat) (d : decode cc pc = .ok (.ifCond .eq off, 3)) (ht : (pc : Int) + off = (tgt : Int)) (h : ¬ x = 0) (kf : Xw p l e R s m args below meth c G z nL Z (pc + 3) lo st u n kc ks) : Xw p l e R s m args below meth c G z nL Z pc lo (.int x :: st) u n kc ks := fun H locs ls hl hH hS => lv_if_eq C.1 C.2.1 d ht (fun h9 => absurd h9 (by first | exact h | exact fun q => q h)) (fun _ => kf H locs ls hl hH hS)
theorem x_icmp_ne (C : Cx p s m args c G own cc nL z) {x y : Int32} {off : Int} (tgt : Nat) (d : decode cc pc = .ok (.if_icmp .ne off, 3)) (ht : (pc : Int) + off = (tgt : Int)) (kt : ¬ x = y → Xw p l e R s m args below meth c G z nL Z tgt lo st u n kc ks) (kf : x = y → Xw p l e R s m args below meth c G z nL Z (pc + 3) lo st u n kc ks) : Xw p l e R s m args below meth c G z nL Z pc lo (.int y :: .int x :: st) u n kc ks := fun H locs ls hl hH hS => lv_icmp_ne C.1 C.2.1 d ht (fun h => kt h H locs ls hl hH hS) (fun h => kf h H locs ls hl hH hS)
theorem x_icmp_ne_t (C : Cx p s m args c G own cc nL z) {x y : Int32} {off : Int} (tgt : Nat) (d : decode cc pc = .ok (.if_icmp .ne off, 3)) (ht : (pc : Int) + off = (tgt : Int)) (h : ¬ x = y) (kt : Xw p l e R s m args below meth c G z nL Z tgt lo st u n kc ks) : Xw p l e R s m args below meth c G z nL Z pc lo (.int y :: .int x :: st) u n kc ks := fun H locs ls hl hH hS => lv_icmp_ne C.1 C.2.1 d ht (fun _ => kt H locs ls hl hH hS) (fun h9 => absurd h (by first | exact h9 | exact fun q => q h9))
theorem x_icmp_ne_f (C : Cx p s m args c G own cc nL z) {x y : Int32} {off : Int} (tgt : Nat) (d : decode cc pc = .ok (.if_icmp .ne off, 3)) (ht : (pc : Int) + off = (tgt : Int)) (h : x = y) (kf : Xw p l e R s m args below meth c G z nL Z (pc + 3) lo st u n kc ks) : Xw p l e R s m args below meth c G z nL Z pc lo (.int y :: .int x :: st) u n kc ks := fun H locs ls hl hH hS => lv_icmp_ne C.1 C.2.1 d ht (fun h9 => absurd h9 (by first | exact h | exact fun q => q h)) (fun _ => kf H locs ls hl hH hS)
theorem x_if_ne (C : Cx p s m args c G own cc nL z) {x : Int32} {off : Int} (tgt : Nat) (d : decode cc pc = .ok (.ifCond .ne off, 3)) (ht : (pc : Int) + off = (tgt : Int)) (kt : ¬ x = 0 → Xw p l e R s m args below meth c G z nL Z tgt lo st u n kc ks) (kf : x = 0 → Xw p l e R s m args below meth c G z nL Z (pc + 3) lo st u n kc ks) : Xw p l e R s m args below meth c G z nL Z pc lo (.int x :: st) u n kc ks := fun H locs ls hl hH hS => lv_if_ne C.1 C.2.1 d ht (fun h => kt h H locs ls hl hH hS) (fun h => kf h H locs ls hl hH hS)
theorem x_if_ne_t (C : Cx p s m args c G own cc nL z) {x : Int32} {off : Int} (tgt : Nat) (d : decode cc pc = .ok (.ifCond .ne off, 3)) (ht : (pc : Int) + off = (tgt : Int)) (h : ¬ x = 0) (kt : Xw p l e R s m args below meth c G z nL Z tgt lo st u n kc ks) : Xw p l e R s m args below meth c G z nL Z pc lo (.int x :: st) u n kc ks := fun H locs ls hl hH hS => lv_if_ne C.1 C.2.1 d ht (fun _ => kt H locs ls hl hH hS) (fun h9 => absurd h (by first | exact h9 | exact fun q => q h9))
theorem x_if_ne_f (C : Cx p s m args c G own cc nL z) {x : Int32} {off : Int} (tgt : Nat) (d : decode cc pc = .ok (.ifCond .ne off, 3)) (ht : (pc : Int) + off = (tgt : Int)) (h : x = 0) (kf : Xw p l e R s m args below meth c G z nL Z (pc + 3) lo st u n kc ks) : Xw p l e R s m args below meth c G z nL Z pc lo (.int x :: st) u n kc ks := fun H locs ls hl hH hS => lv_if_ne C.1 C.2.1 d ht (fun h9 => absurd h9 (by first | exact h | exact fun q => q h)) (fun _ => kf H locs ls hl hH hS)
theorem x_icmp_lt (C : Cx p s m args c G own cc nL z) {x y : Int32} {off : Int} (tgt : Nat) (d : decode cc pc = .ok (.if_icmp .lt off, 3)) (ht : (pc : Int) + off = (tgt : Int)) (kt : x < y → Xw p l e R s m args below meth c G z nL Z tgt lo st u n kc ks) (kf : ¬ x < y → Xw p l e R s m args below meth c G z nL Z (pc + 3) lo st u n kc ks) : Xw p l e R s m args below meth c G z nL Z pc lo (.int y :: .int x :: st) u n kc ks := fun H locs ls hl hH hS => lv_icmp_lt C.1 C.2.1 d ht (fun h => kt h H locs ls hl hH hS) (fun h => kf h H locs ls hl hH hS)
theorem x_icmp_lt_t (C : Cx p s m args c G own cc nL z) {x y : Int32} {off : Int} (tgt : Nat) (d : decode cc pc = .ok (.if_icmp .lt off, 3)) (ht : (pc : Int) + off = (tgt : Int)) (h : x < y) (kt : Xw p l e R s m args below meth c G z nL Z tgt lo st u n kc ks) : Xw p l e R s m args below meth c G z nL Z pc lo (.int y :: .int x :: st) u n kc ks := fun H locs ls hl hH hS => lv_icmp_lt C.1 C.2.1 d ht (fun _ => kt H locs ls hl hH hS) (fun h9 => absurd h (by first | exact h9 | exact fun q => q h9))
theorem x_icmp_lt_f (C : Cx p s m args c G own cc nL z) {x y : Int32} {off : Int} (tgt : Nat) (d : decode cc pc = .ok (.if_icmp .lt off, 3)) (ht : (pc : Int) + off = (tgt : Int)) (h : ¬ x < y) (kf : Xw p l e R s m args below meth c G z nL Z (pc + 3) lo st u n kc ks) : Xw p l e R s m args below meth c G z nL Z pc lo (.int y :: .int x :: st) u n kc ks := fun H locs ls hl hH hS => lv_icmp_lt C.1 C.2.1 d ht (fun h9 => absurd h9 (by first | exact h | exact fun q => q h)) (fun _ => kf H locs ls hl hH hS)
theorem x_if_lt (C : Cx p s m args c G own cc nL z) {x : Int32} {off : Int} (tgt : Nat) (d : decode cc pc = .ok (.ifCond .lt off, 3)) (ht : (pc : Int) + off = (tgt : Int)) (kt : x < 0 → Xw p l e R s m args below meth c G z nL Z tgt lo st u n kc ks) (kf : ¬ x < 0 → Xw p l e R s m args below meth c G z nL Z (pc + 3) lo st u n kc ks) : Xw p l e R s m args below meth c G z nL Z pc lo (.int x :: st) u n kc ks := fun H locs ls hl hH hS => lv_if_lt C.1 C.2.1 d ht (fun h => kt h H locs ls hl hH hS) (fun h => kf h H locs ls hl hH hS)
theorem x_if_lt_t (C : Cx p s m args c G own cc nL z) {x : Int32} {off : Int} (tgt : Nat) (d : decode cc pc = .ok (.ifCond .lt off, 3)) (ht : (pc : Int) + off = (tgt : Int)) (h : x < 0) (kt : Xw p l e R s m args below meth c G z nL Z tgt lo st u n kc ks) : Xw p l e R s m args below meth c G z nL Z pc lo (.int x :: st) u n kc ks := fun H locs ls hl hH hS => lv_if_lt C.1 C.2.1 d ht (fun _ => kt H locs ls hl hH hS) (fun h9 => absurd h (by first | exact h9 | exact fun q => q h9))
theorem x_if_lt_f (C : Cx p s m args c G own cc nL z) {x : Int32} {off : Int} (tgt : Nat) (d : decode cc pc = .ok (.ifCond .lt off, 3)) (ht : (pc : Int) + off = (tgt : Int)) (h : ¬ x < 0) (kf : Xw p l e R s m args below meth c G z nL Z (pc + 3) lo st u n kc ks) : Xw p l e R s m args below meth c G z nL Z pc lo (.int x :: st) u n kc ks := fun H locs ls hl hH hS => lv_if_lt C.1 C.2.1 d ht (fun h9 => absurd h9 (by first | exact h | exact fun q => q h)) (fun _ => kf H locs ls hl hH hS)
theorem x_icmp_ge (C : Cx p s m args c G own cc nL z) {x y : Int32} {off : Int} (tgt : Nat) (d : decode cc pc = .ok (.if_icmp .ge off, 3)) (ht : (pc : Int) + off = (tgt : Int)) (kt : y ≤ x → Xw p l e R s m args below meth c G z nL Z tgt lo st u n kc ks) (kf : ¬ y ≤ x → Xw p l e R s m args below meth c G z nL Z (pc + 3) lo st u n kc ks) : Xw p l e R s m args below meth c G z nL Z pc lo (.int y :: .int x :: st) u n kc ks := fun H locs ls hl hH hS => lv_icmp_ge C.1 C.2.1 d ht (fun h => kt h H locs ls hl hH hS) (fun h => kf h H locs ls hl hH hS)
theorem x_icmp_ge_t (C : Cx p s m args c G own cc nL z) {x y : Int32} {off : Int} (tgt : Nat) (d : decode cc pc = .ok (.if_icmp .ge off, 3)) (ht : (pc : Int) + off = (tgt : Int)) (h : y ≤ x) (kt : Xw p l e R s m args below meth c G z nL Z tgt lo st u n kc ks) : Xw p l e R s m args below meth c G z nL Z pc lo (.int y :: .int x :: st) u n kc ks := fun H locs ls hl hH hS => lv_icmp_ge C.1 C.2.1 d ht (fun _ => kt H locs ls hl hH hS) (fun h9 => absurd h (by first | exact h9 | exact fun q => q h9))
theorem x_icmp_ge_f (C : Cx p s m args c G own cc nL z) {x y : Int32} {off : Int} (tgt : Nat) (d : decode cc pc = .ok (.if_icmp .ge off, 3)) (ht : (pc : Int) + off = (tgt : Int)) (h : ¬ y ≤ x) (kf : Xw p l e R s m args below meth c G z nL Z (pc + 3) lo st u n kc ks) : Xw p l e R s m args below meth c G z nL Z pc lo (.int y :: .int x :: st) u n kc ks := fun H locs ls hl hH hS => lv_icmp_ge C.1 C.2.1 d ht (fun h9 => absurd h9 (by first | exact h | exact fun q => q h)) (fun _ => kf H locs ls hl hH hS)
theorem x_if_ge (C : Cx p s m args c G own cc nL z) {x : Int32} {off : Int} (tgt : Nat) (d : decode cc pc = .ok (.ifCond .ge off, 3)) (ht : (pc : Int) + off = (tgt : Int)) (kt : 0 ≤ x → Xw p l e R s m args below meth c G z nL Z tgt lo st u n kc ks) (kf : ¬ 0 ≤ x → Xw p l e R s m args below meth c G z nL Z (pc + 3) lo st u n kc ks) : Xw p l e R s m args below meth c G z nL Z pc lo (.int x :: st) u n kc ks := fun H locs ls hl hH hS => lv_if_ge C.1 C.2.1 d ht (fun h => kt h H locs ls hl hH hS) (fun h => kf h H locs ls hl hH hS)
theorem x_if_ge_t (C : Cx p s m args c G own cc nL z) {x : Int32} {off : Int} (tgt : Nat) (d : decode cc pc = .ok (.ifCond .ge off, 3)) (ht : (pc : Int) + off = (tgt : Int)) (h : 0 ≤ x) (kt : Xw p l e R s m args below meth c G z nL Z tgt lo st u n kc ks) : Xw p l e R s m args below meth c G z nL Z pc lo (.int x :: st) u n kc ks := fun H locs ls hl hH hS => lv_if_ge C.1 C.2.1 d ht (fun _ => kt H locs ls hl hH hS) (fun h9 => absurd h (by first | exact h9 | exact fun q => q h9))
theorem x_if_ge_f (C : Cx p s m args c G own cc nL z) {x : Int32} {off : Int} (tgt : Nat) (d : decode cc pc = .ok (.ifCond .ge off, 3)) (ht : (pc : Int) + off = (tgt : Int)) (h : ¬ 0 ≤ x) (kf : Xw p l e R s m args below meth c G z nL Z (pc + 3) lo st u n kc ks) : Xw p l e R s m args below meth c G z nL Z pc lo (.int x :: st) u n kc ks := fun H locs ls hl hH hS => lv_if_ge C.1 C.2.1 d ht (fun h9 => absurd h9 (by first | exact h | exact fun q => q h)) (fun _ => kf H locs ls hl hH hS)
theorem x_icmp_gt (C : Cx p s m args c G own cc nL z) {x y : Int32} {off : Int} (tgt : Nat) (d : decode cc pc = .ok (.if_icmp .gt off, 3)) (ht : (pc : Int) + off = (tgt : Int)) (kt : y < x → Xw p l e R s m args below meth c G z nL Z tgt lo st u n kc ks) (kf : ¬ y < x → Xw p l e R s m args below meth c G z nL Z (pc + 3) lo st u n kc ks) : Xw p l e R s m args below meth c G z nL Z pc lo (.int y :: .int x :: st) u n kc ks := fun H locs ls hl hH hS => lv_icmp_gt C.1 C.2.1 d ht (fun h => kt h H locs ls hl hH hS) (fun h => kf h H locs ls hl hH hS)
theorem x_icmp_gt_t (C : Cx p s m args c G own cc nL z) {x y : Int32} {off : Int} (tgt : Nat) (d : decode cc pc = .ok (.if_icmp .gt off, 3)) (ht : (pc : Int) + off = (tgt : Int)) (h : y < x) (kt : Xw p l e R s m args below meth c G z nL Z tgt lo st u n kc ks) : Xw p l e R s m args below meth c G z nL Z pc lo (.int y :: .int x :: st) u n kc ks := fun H locs ls hl hH hS => lv_icmp_gt C.1 C.2.1 d ht (fun _ => kt H locs ls hl hH hS) (fun h9 => absurd h (by first | exact h9 | exact fun q => q h9))
theorem x_icmp_gt_f (C : Cx p s m args c G own cc nL z) {x y : Int32} {off : Int} (tgt : Nat) (d : decode cc pc = .ok (.if_icmp .gt off, 3)) (ht : (pc : Int) + off = (tgt : Int)) (h : ¬ y < x) (kf : Xw p l e R s m args below meth c G z nL Z (pc + 3) lo st u n kc ks) : Xw p l e R s m args below meth c G z nL Z pc lo (.int y :: .int x :: st) u n kc ks := fun H locs ls hl hH hS => lv_icmp_gt C.1 C.2.1 d ht (fun h9 => absurd h9 (by first | exact h | exact fun q => q h)) (fun _ => kf H locs ls hl hH hS)
theorem x_if_gt (C : Cx p s m args c G own cc nL z) {x : Int32} {off : Int} (tgt : Nat) (d : decode cc pc = .ok (.ifCond .gt off, 3)) (ht : (pc : Int) + off = (tgt : Int)) (kt : 0 < x → Xw p l e R s m args below meth c G z nL Z tgt lo st u n kc ks) (kf : ¬ 0 < x → Xw p l e R s m args below meth c G z nL Z (pc + 3) lo st u n kc ks) : Xw p l e R s m args below meth c G z nL Z pc lo (.int x :: st) u n kc ks := fun H locs ls hl hH hS => lv_if_gt C.1 C.2.1 d ht (fun h => kt h H locs ls hl hH hS) (fun h => kf h H locs ls hl hH hS)
theorem x_if_gt_t (C : Cx p s m args c G own cc nL z) {x : Int32} {off : Int} (tgt : Nat) (d : decode cc pc = .ok (.ifCond .gt off, 3)) (ht : (pc : Int) + off = (tgt : Int)) (h : 0 < x) (kt : Xw p l e R s m args below meth c G z nL Z tgt lo st u n kc ks) : Xw p l e R s m args below meth c G z nL Z pc lo (.int x :: st) u n kc ks := fun H locs ls hl hH hS => lv_if_gt C.1 C.2.1 d ht (fun _ => kt H locs ls hl hH hS) (fun h9 => absurd h (by first | exact h9 | exact fun q => q h9))
theorem x_if_gt_f (C : Cx p s m args c G own cc nL z) {x : Int32} {off : Int} (tgt : Nat) (d : decode cc pc = .ok (.ifCond .gt off, 3)) (ht : (pc : Int) + off = (tgt : Int)) (h : ¬ 0 < x) (kf : Xw p l e R s m args below meth c G z nL Z (pc + 3) lo st u n kc ks) : Xw p l e R s m args below meth c G z nL Z pc lo (.int x :: st) u n kc ks := fun H locs ls hl hH hS => lv_if_gt C.1 C.2.1 d ht (fun h9 => absurd h9 (by first | exact h | exact fun q => q h)) (fun _ => kf H locs ls hl hH hS)
theorem x_icmp_le (C : Cx p s m args c G own cc nL z) {x y : Int32} {off : Int} (tgt : Nat) (d : decode cc pc = .ok (.if_icmp .le off, 3)) (ht : (pc : Int) + off = (tgt : Int)) (kt : x ≤ y → Xw p l e R s m args below meth c G z nL Z tgt lo st u n kc ks) (kf : ¬ x ≤ y → Xw p l e R s m args below meth c G z nL Z (pc + 3) lo st u n kc ks) : Xw p l e R s m args below meth c G z nL Z pc lo (.int y :: .int x :: st) u n kc ks := fun H locs ls hl hH hS => lv_icmp_le C.1 C.2.1 d ht (fun h => kt h H locs ls hl hH hS) (fun h => kf h H locs ls hl hH hS)
theorem x_icmp_le_t (C : Cx p s m args c G own cc nL z) {x y : Int32} {off : Int} (tgt : Nat) (d : decode cc pc = .ok (.if_icmp .le off, 3)) (ht : (pc : Int) + off = (tgt : Int)) (h : x ≤ y) (kt : Xw p l e R s m args below meth c G z nL Z tgt lo st u n kc ks) : Xw p l e R s m args below meth c G z nL Z pc lo (.int y :: .int x :: st) u n kc ks := fun H locs ls hl hH hS => lv_icmp_le C.1 C.2.1 d ht (fun _ => kt H locs ls hl hH hS) (fun h9 => absurd h (by first | exact h9 | exact fun q => q h9))
theorem x_icmp_le_f (C : Cx p s m args c G own cc nL z) {x y : Int32} {off : Int} (tgt : Nat) (d : decode cc pc = .ok (.if_icmp .le off, 3)) (ht : (pc : Int) + off = (tgt : Int)) (h : ¬ x ≤ y) (kf : Xw p l e R s m args below meth c G z nL Z (pc + 3) lo st u n kc ks) : Xw p l e R s m args below meth c G z nL Z pc lo (.int y :: .int x :: st) u n kc ks := fun H locs ls hl hH hS => lv_icmp_le C.1 C.2.1 d ht (fun h9 => absurd h9 (by first | exact h | exact fun q => q h)) (fun _ => kf H locs ls hl hH hS)
theorem x_if_le (C : Cx p s m args c G own cc nL z) {x : Int32} {off : Int} (tgt : Nat) (d : decode cc pc = .ok (.ifCond .le off, 3)) (ht : (pc : Int) + off = (tgt : Int)) (kt : x ≤ 0 → Xw p l e R s m args below meth c G z nL Z tgt lo st u n kc ks) (kf : ¬ x ≤ 0 → Xw p l e R s m args below meth c G z nL Z (pc + 3) lo st u n kc ks) : Xw p l e R s m args below meth c G z nL Z pc lo (.int x :: st) u n kc ks := fun H locs ls hl hH hS => lv_if_le C.1 C.2.1 d ht (fun h => kt h H locs ls hl hH hS) (fun h => kf h H locs ls hl hH hS)
theorem x_if_le_t (C : Cx p s m args c G own cc nL z) {x : Int32} {off : Int} (tgt : Nat) (d : decode cc pc = .ok (.ifCond .le off, 3)) (ht : (pc : Int) + off = (tgt : Int)) (h : x ≤ 0) (kt : Xw p l e R s m args below meth c G z nL Z tgt lo st u n kc ks) : Xw p l e R s m args below meth c G z nL Z pc lo (.int x :: st) u n kc ks := fun H locs ls hl hH hS => lv_if_le C.1 C.2.1 d ht (fun _ => kt H locs ls hl hH hS) (fun h9 => absurd h (by first | exact h9 | exact fun q => q h9))
theorem x_if_le_f (C : Cx p s m args c G own cc nL z) {x : Int32} {off : Int} (tgt : Nat) (d : decode cc pc = .ok (.ifCond .le off, 3)) (ht : (pc : Int) + off = (tgt : Int)) (h : ¬ x ≤ 0) (kf : Xw p l e R s m args below meth c G z nL Z (pc + 3) lo st u n kc ks) : Xw p l e R s m args below meth c G z nL Z pc lo (.int x :: st) u n kc ks := fun H locs ls hl hH hS => lv_if_le C.1 C.2.1 d ht (fun h9 => absurd h9 (by first | exact h | exact fun q => q h)) (fun _ => kf H locs ls hl hH hS)
theorem x_goto (C : Cx p s m args c G own cc nL z) {off : Int} (tgt : Nat) (d : decode cc pc = .ok (.goto off, 3)) (ht : (pc : Int) + off = (tgt : Int)) (k : Xw p l e R s m args below meth c G z nL Z tgt lo st u n kc ks) : Xw p l e R s m args below meth c G z nL Z pc lo st u n kc ks := fun H locs ls hl hH hS => lv_goto C.1 C.2.1 d ht (k H locs ls hl hH hS)
theorem x_mv {lo2 : List (Nat × Value)} (ks' : List Nat) (hl : lv_pick lo ks' = lo2) (k : Xw p l e R s m args below meth c G z nL Z pc lo2 st u n kc ks) : Xw p l e R s m args below meth c G z nL Z pc lo st u n kc ks := fun H locs ls hL hH hS => k H locs ls (lv_sub hL ks' hl) hH hS
theorem x_heap {u2 : HpT} (hu : u = u2) (k : Xw p l e R s m args below meth c G z nL Z pc lo st u2 n kc ks) : Xw p l e R s m args below meth c G z nL Z pc lo st u n kc ks := hu ▸ k
theorem x_tableIn (C : Cx p s m args c G own cc nL z) {dflt lo1 hi : Int} {offs : Array Int} {len : Nat} {x : Int32} {off : Int} (tgt : Nat) (d : decode cc pc = .ok (.tableswitch dflt lo1 hi offs, len)) (h1 : ¬ x.toInt < lo1) (h2 : ¬ hi < x.toInt) (ho : offs[(x.toInt - lo1).toNat]? = some off) (ht : (pc : Int) + off = (tgt : Int))
    (k : Xw p l e R s m args below meth c G z nL Z tgt lo st u n kc ks) : Xw p l e R s m args below meth c G z nL Z pc lo (.int x :: st) u n kc ks := fun H locs ls hl hH hS => lv_tableIn C.1 C.2.1 d h1 h2 ho ht (k H locs ls hl hH hS)
theorem x_tableOut (C : Cx p s m args c G own cc nL z) {dflt lo1 hi : Int} {offs : Array Int} {len : Nat} {x : Int32} (tgt : Nat) (d : decode cc pc = .ok (.tableswitch dflt lo1 hi offs, len)) (h : x.toInt < lo1 ∨ hi < x.toInt) (ht : (pc : Int) + dflt = (tgt : Int))
    (k : Xw p l e R s m args below meth c G z nL Z tgt lo st u n kc ks) : Xw p l e R s m args below meth c G z nL Z pc lo (.int x :: st) u n kc ks := fun H locs ls hl hH hS => lv_tableOut C.1 C.2.1 d h ht (k H locs ls hl hH hS)
theorem x_ldc (C : Cx p s m args c G own cc nL z) {index : Nat} {v : Int32} (hw : Cond.constant own index v ∈ lw_good) (d : decode cc pc = .ok (.ldc index, 2)) (k : Xw p l e R s m args below meth c G z nL Z (pc + 2) lo (.int v :: st) u n kc ks) : Xw p l e R s m args below meth c G z nL Z pc lo st u n kc ks := fun H locs ls hl hH hS => lv_ldc C.1 C.2.1 C.2.2.2.1 (C.2.2.2.2.1 _ hw) d (k H locs ls hl hH hS)
theorem x_ldcw (C : Cx p s m args c G own cc nL z) {index : Nat} {v : Int32} (hw : Cond.constant own index v ∈ lw_good) (d : decode cc pc = .ok (.ldc_w index, 3)) (k : Xw p l e R s m args below meth c G z nL Z (pc + 3) lo (.int v :: st) u n kc ks) : Xw p l e R s m args below meth c G z nL Z pc lo st u n kc ks := fun H locs ls hl hH hS => lv_ldcw C.1 C.2.1 C.2.2.2.1 (C.2.2.2.2.1 _ hw) d (k H locs ls hl hH hS)
theorem x_ldc2 (C : Cx p s m args c G own cc nL z) {index : Nat} {v : Int64} (hw : Cond.constantLong own index v ∈ lw_good) (d : decode cc pc = .ok (.ldc2_w index, 3)) (k : Xw p l e R s m args below meth c G z nL Z (pc + 3) lo (.long v :: st) u n kc ks) : Xw p l e R s m args below meth c G z nL Z pc lo st u n kc ks := fun H locs ls hl hH hS => lv_ldc2 C.1 C.2.1 C.2.2.2.1 (C.2.2.2.2.1 _ hw) d (k H locs ls hl hH hS)
/-- a computed number gets a name -/
theorem x_top {v : Int32} (k : ∀ w : Int32, w = v → Xw p l e R s m args below meth c G z nL Z pc lo (.int w :: st) u n kc ks) : Xw p l e R s m args below meth c G z nL Z pc lo (.int v :: st) u n kc ks := k v rfl
theorem x_eqi {v w : Int32} (h : v = w) (k : Xw p l e R s m args below meth c G z nL Z pc lo (.int w :: st) u n kc ks) : Xw p l e R s m args below meth c G z nL Z pc lo (.int v :: st) u n kc ks := h ▸ k
theorem x_eql {v w : Int64} (h : v = w) (k : Xw p l e R s m args below meth c G z nL Z pc lo (.long w :: st) u n kc ks) : Xw p l e R s m args below meth c G z nL Z pc lo (.long v :: st) u n kc ks := h ▸ k
/-- getfield -/
theorem x_get (C : Cx p s m args c G own cc nL z) {ref C' : String} {T : u_T} {N ci index : Nat} (hin : ∀ w ∈ u_ws C' T N, w ∈ lw_good) (hc : vwCl[ci]? = some (C', T, N)) (k : Nat) (hk : k < N) (hw : Cond.fieldLink own index ref (T k).2.1 (T k).2.2.1 ∈ lw_good) (href : (T k).1 = ref) {a : Nat} {fs : List Value} {v : Value} (hu : u a = some (.inr (ci, fs))) (hv : fs[k]? = some v) (d : decode cc pc = .ok (.getfield index, 3))
    (kk : Xw p l e R s m args below meth c G z nL Z (pc + 3) lo (v :: st) u n kc ks) : Xw p l e R s m args below meth c G z nL Z pc lo (.ref (z + a) :: st) u n kc ks :=
  fun H locs ls hl hH hS => va_get (ws := [(z + a, .inr (ci, fs))]) C.1 C.2.1 C.2.2.2.2.1 hin C.2.2.2.1 C.2.2.2.2.2.1.1 (hH.one hu) 0 rfl hc k hk (C.2.2.2.2.1 _ hw) (fun _ h9 => by rw [← href]; exact h9) hv d (kk H locs ls hl hH hS)
/-- putfield -/
theorem x_put (C : Cx p s m args c G own cc nL z) {ref C' : String} {T : u_T} {N ci index : Nat} (hin : ∀ w ∈ u_ws C' T N, w ∈ lw_good) (ty0 : Nat → FieldType) (hty : ∀ k, k < N → parseFieldDescriptor (T k).2.2.1 = some (ty0 k)) (hnm : ∀ a, a < N → ∀ b, b < N → a ≠ b → (T a).2.1 ≠ (T b).2.1) (hc : vwCl[ci]? = some (C', T, N)) (k : Nat) (hk : k < N) (hw : Cond.fieldLink own index ref (T k).2.1 (T k).2.2.1 ∈ lw_good) (href : (T k).1 = ref) (hfin : (T k).2.2.2 = false)
    {a : Nat} {fs : List Value} {v : Value} (hn : narrow (ty0 k) v = v) (hfit : fits (ty0 k) v = true) (hu : u a = some (.inr (ci, fs))) (hl : k < fs.length) (d : decode cc pc = .ok (.putfield index, 3))
    (kk : Xw p l e R s m args below meth c G z nL Z (pc + 3) lo st (hup u a (.inr (ci, fs.set k v))) n kc ks) : Xw p l e R s m args below meth c G z nL Z pc lo (v :: .ref (z + a) :: st) u n kc ks := by
  intro H locs ls hL hH hS0
  obtain ⟨hexec, hb, -, hown, hts, ⟨hK, -⟩, hzs⟩ := C
  have hap := va_apart (own := own) hts hin ty0 hty hnm hK hc
  obtain ⟨r, h1, cell, q1, q2, q3, q4⟩ := hH.2 a _ hu
  have hr : r = (C', T, N) := Option.some.inj (h1.symm.trans hc)
  subst hr
  obtain ⟨hS, hfc, kC, hkC, hkind⟩ := hK.1 ci _ hc
  obtain ⟨cf, kf, fi, f, hi, hsl⟩ := hS k hk
  have hlay := hts _ (hin _ (u_in_lay hk))
  unfold u_lay at hlay
  rw [if_neg (by rw [hfin]; decide)] at hlay
  have hst := (u_facts hfc hkC (u_lays hts hin hk) hi).1
  have h6 := u_store hfc hkC hkind hlay hi (hty k hk) hn hfit
  refine W.putK hexec hb (f := f) ⟨hown, hts _ hw, ⟨_, _, _, by rw [← href]; exact hi⟩, hst⟩ (by rw [q2]; exact h6) q1 q3 (by rw [hsl]; exact k2_hasslot (q4 k hk)) rfl rfl d fun H' e1 e2 e3 => ?_
  rw [hsl] at e1 ⊢
  exact kk H' _ ls hL (hH.upd e2 e3 ⟨_, hc, t_OB.to (V := updV (vp_V fs) k v) ⟨_, e1, q2, q3, t_set q4 hap hk v⟩ (fun j _ => vp_updV_set hl v j)⟩) (hS0.put e2 e3 (by show z ≤ z + a; omega))
theorem x_putF (C : Cx p s m args c G own cc nL z) {ref C' : String} {T : u_T} {N ci index : Nat} (hin : ∀ w ∈ u_ws C' T N, w ∈ lw_good) (ty0 : Nat → FieldType) (hty : ∀ k, k < N → parseFieldDescriptor (T k).2.2.1 = some (ty0 k)) (hnm : ∀ a, a < N → ∀ b, b < N → a ≠ b → (T a).2.1 ≠ (T b).2.1) (hc : vwCl[ci]? = some (C', T, N)) (k : Nat) (hk : k < N) (hw : Cond.fieldLink own index ref (T k).2.1 (T k).2.2.1 ∈ lw_good) (href : (T k).1 = ref) (hfin : (T k).2.2.2 = true) (hin2 : meth.name = "<init>") (hdecl : (T k).1 = own)
    {a : Nat} {fs : List Value} {v : Value} (hn : narrow (ty0 k) v = v) (hfit : fits (ty0 k) v = true) (hu : u a = some (.inr (ci, fs))) (hl : k < fs.length) (d : decode cc pc = .ok (.putfield index, 3))
    (kk : Xw p l e R s m args below meth c G z nL Z (pc + 3) lo st (hup u a (.inr (ci, fs.set k v))) n kc ks) : Xw p l e R s m args below meth c G z nL Z pc lo (v :: .ref (z + a) :: st) u n kc ks := by
  intro H locs ls hL hH hS0
  obtain ⟨hexec, hb, -, hown, hts, ⟨hK, -⟩, hzs⟩ := C
  have hap := va_apart (own := own) hts hin ty0 hty hnm hK hc
  obtain ⟨r, h1, cell, q1, q2, q3, q4⟩ := hH.2 a _ hu
  have hr : r = (C', T, N) := Option.some.inj (h1.symm.trans hc)
  subst hr
  obtain ⟨hS, hfc, kC, hkC, hkind⟩ := hK.1 ci _ hc
  obtain ⟨cf, kf, fi, f, hi, hsl⟩ := hS k hk
  have hlay := hts _ (hin _ (u_in_lay hk))
  unfold u_lay at hlay
  rw [if_pos hfin] at hlay
  have hst := (u_facts hfc hkC (u_lays hts hin hk) hi).1
  have hcf : m.cls = cf := by
    obtain ⟨_, _, c', _, _, _, -, -, hf', -, -, -, hown2, -⟩ := Cond.laysFinal_spec hlay
    have e1 : c' = cf := by have := hi.symm.trans hf'; simp at this; exact this.1.symm
    rw [hdecl] at hown2
    rw [← e1]; exact Option.some.inj (hown.symm.trans hown2)
  have h6 := u_fits hfc hkC hkind (Or.inr hlay) hi (hty k hk) hn hfit
  refine W.putFinK hexec hb hown (hts _ hw) (by rw [← href]; exact hi) hst hcf hin2 (by rw [q2]; exact h6) q1 q3 (by rw [hsl]; exact k2_hasslot (q4 k hk)) rfl rfl d fun H' e1 e2 e3 => ?_
  rw [hsl] at e1 ⊢
  exact kk H' _ ls hL (hH.upd e2 e3 ⟨_, hc, t_OB.to (V := updV (vp_V fs) k v) ⟨_, e1, q2, q3, t_set q4 hap hk v⟩ (fun j _ => vp_updV_set hl v j)⟩) (hS0.put e2 e3 (by show z ≤ z + a; omega))
/-- arrays -/
theorem x_iald (C : Cx p s m args c G own cc nL z) {a N : Nat} {f : Nat → Int32} {i : Int32} (hu : u a = some (aI G N f)) (hin : vp_in i N) (d : decode cc pc = .ok (.iaload, 1))
    (kk : Xw p l e R s m args below meth c G z nL Z (pc + 1) lo (.int (f i.toNatClampNeg) :: st) u n kc ks) : Xw p l e R s m args below meth c G z nL Z pc lo (.int i :: .ref (z + a) :: st) u n kc ks :=
  fun H locs ls hl hH hS => va_iald (ws := [(z + a, aI G N f)]) C.1 C.2.1 C.2.2.2.2.2.1.1 (hH.one hu) 0 0 rfl rfl hin d (kk H locs ls hl hH hS)
theorem x_zald (C : Cx p s m args c G own cc nL z) {a N : Nat} {f : Nat → Int32} {i : Int32} (hu : u a = some (aZ G N f)) (hin : vp_in i N) (d : decode cc pc = .ok (.baload, 1))
    (kk : Xw p l e R s m args below meth c G z nL Z (pc + 1) lo (.int (f i.toNatClampNeg) :: st) u n kc ks) : Xw p l e R s m args below meth c G z nL Z pc lo (.int i :: .ref (z + a) :: st) u n kc ks :=
  fun H locs ls hl hH hS => va_zald (ws := [(z + a, aZ G N f)]) C.1 C.2.1 C.2.2.2.2.2.1.1 (hH.one hu) 0 1 rfl rfl hin d (kk H locs ls hl hH hS)
theorem x_lald (C : Cx p s m args c G own cc nL z) {a N : Nat} {f : Nat → Int64} {i : Int32} (hu : u a = some (aL G N f)) (hin : vp_in i N) (d : decode cc pc = .ok (.laload, 1))
    (kk : Xw p l e R s m args below meth c G z nL Z (pc + 1) lo (.long (f i.toNatClampNeg) :: st) u n kc ks) : Xw p l e R s m args below meth c G z nL Z pc lo (.int i :: .ref (z + a) :: st) u n kc ks :=
  fun H locs ls hl hH hS => va_lald (ws := [(z + a, aL G N f)]) C.1 C.2.1 C.2.2.2.2.2.1.1 (hH.one hu) 0 2 rfl rfl hin d (kk H locs ls hl hH hS)
theorem x_aaldE (C : Cx p s m args c G own cc nL z) {a N y : Nat} {f : Nat → Option Nat} {i : Int32} (hu : u a = some (aE G N f)) (hin : vp_in i N) (hy : f i.toNatClampNeg = some y) (d : decode cc pc = .ok (.aaload, 1))
    (kk : Xw p l e R s m args below meth c G z nL Z (pc + 1) lo (.ref y :: st) u n kc ks) : Xw p l e R s m args below meth c G z nL Z pc lo (.int i :: .ref (z + a) :: st) u n kc ks :=
  fun H locs ls hl hH hS => va_aldq (ws := [(z + a, aE G N f)]) C.1 C.2.1 C.2.2.2.2.2.1.1 (hH.one hu) 0 3 rfl rfl hin d (by rw [hy]; exact kk H locs ls hl hH hS)
theorem x_aaldM (C : Cx p s m args c G own cc nL z) {a N y : Nat} {f : Nat → Option Nat} {i : Int32} (hu : u a = some (aM G N f)) (hin : vp_in i N) (hy : f i.toNatClampNeg = some y) (d : decode cc pc = .ok (.aaload, 1))
    (kk : Xw p l e R s m args below meth c G z nL Z (pc + 1) lo (.ref y :: st) u n kc ks) : Xw p l e R s m args below meth c G z nL Z pc lo (.int i :: .ref (z + a) :: st) u n kc ks :=
  fun H locs ls hl hH hS => va_aldq (ws := [(z + a, aM G N f)]) C.1 C.2.1 C.2.2.2.2.2.1.1 (hH.one hu) 0 4 rfl rfl hin d (by rw [hy]; exact kk H locs ls hl hH hS)
theorem x_alen (C : Cx p s m args c G own cc nL z) (t0 : Nat) {a : Nat} {cA : ClassId} {x : vp_A} {ty : FieldType} (hu : u a = some (.inl (cA, x))) (ht : (gtys G)[t0]? = some (cA, ty)) {v : Int32} (hv : Int32.ofNat x.1 = v) (d : decode cc pc = .ok (.arraylength, 1))
    (kk : Xw p l e R s m args below meth c G z nL Z (pc + 1) lo (.int v :: st) u n kc ks) : Xw p l e R s m args below meth c G z nL Z pc lo (.ref (z + a) :: st) u n kc ks :=
  fun H locs ls hl hH hS => va_alen (ws := [(z + a, .inl (cA, x))]) C.1 C.2.1 C.2.2.2.2.2.1.1 (hH.one hu) 0 t0 rfl ht hv d (kk H locs ls hl hH hS)
theorem x_iast (C : Cx p s m args c G own cc nL z) {a N : Nat} {f : Nat → Int32} {i v : Int32} (hu : u a = some (aI G N f)) (hin : vp_in i N) (d : decode cc pc = .ok (.iastore, 1))
    (kk : Xw p l e R s m args below meth c G z nL Z (pc + 1) lo st (hup u a (aI G N (upd f i.toNatClampNeg v))) n kc ks) : Xw p l e R s m args below meth c G z nL Z pc lo (.int v :: .int i :: .ref (z + a) :: st) u n kc ks := by
  intro H locs ls hL hH hS
  refine W.iast C.1 C.2.1 (hH.2 a _ hu) ((C.2.2.2.2.2.1.1.2 0 (G.2 0, .int) rfl).1 N (fun j => .int (f j))) (fun q => by cases q) (by show ¬ (i < 0 ∨ (arrV _ _ _).slots.size ≤ _); rw [arrV_size]; exact hin) rfl rfl d fun H1 e1 hz oq => ?_
  refine kk H1 _ ls hL (hH.upd hz oq ?_) (hS.put hz oq (by show z ≤ z + a; omega))
  show H1[z + a]? = some (vp_cell _ _)
  rw [e1]
  rw [vp_cell_i, vp_cell_i, arrV_store]
  congr 2
  funext q
  by_cases hq : q = i.toNatClampNeg
  · subst hq
    simp [updV, upd]
  · simp [updV, upd, hq]
theorem x_zast (C : Cx p s m args c G own cc nL z) {a N : Nat} {f : Nat → Int32} {i v : Int32} (hu : u a = some (aZ G N f)) (hin : vp_in i N) (d : decode cc pc = .ok (.bastore, 1))
    (kk : Xw p l e R s m args below meth c G z nL Z (pc + 1) lo st (hup u a (aZ G N (upd f i.toNatClampNeg (vp_nar .boolean v)))) n kc ks) : Xw p l e R s m args below meth c G z nL Z pc lo (.int v :: .int i :: .ref (z + a) :: st) u n kc ks := by
  intro H locs ls hL hH hS
  refine W.zast C.1 C.2.1 (hH.2 a _ hu) ((C.2.2.2.2.2.1.1.2 1 (G.2 1, .boolean) rfl).1 N (fun j => .int (f j))) (fun q => by cases q) (by show ¬ (i < 0 ∨ (arrV _ _ _).slots.size ≤ _); rw [arrV_size]; exact hin) rfl rfl d fun H1 e1 hz oq => ?_
  refine kk H1 _ ls hL (hH.upd hz oq ?_) (hS.put hz oq (by show z ≤ z + a; omega))
  show H1[z + a]? = some (vp_cell _ _)
  rw [e1]
  rw [vp_cell_i, vp_cell_i, arrV_store]
  congr 2
  funext q
  by_cases hq : q = i.toNatClampNeg
  · subst hq
    simp [updV, upd, vp_nar]
    try rfl
  · simp [updV, upd, hq]
theorem x_last (C : Cx p s m args c G own cc nL z) {a N : Nat} {f : Nat → Int64} {i : Int32} {v : Int64} (hu : u a = some (aL G N f)) (hin : vp_in i N) (d : decode cc pc = .ok (.lastore, 1))
    (kk : Xw p l e R s m args below meth c G z nL Z (pc + 1) lo st (hup u a (aL G N (vp_updL f i.toNatClampNeg v))) n kc ks) : Xw p l e R s m args below meth c G z nL Z pc lo (.long v :: .int i :: .ref (z + a) :: st) u n kc ks := by
  intro H locs ls hL hH hS
  refine W.last C.1 C.2.1 (hH.2 a _ hu) ((C.2.2.2.2.2.1.1.2 2 (G.2 2, .long) rfl).1 N (fun j => .long (f j))) (fun q => by cases q) (by show ¬ (i < 0 ∨ (arrV _ _ _).slots.size ≤ _); rw [arrV_size]; exact hin) rfl rfl d fun H1 e1 hz oq => ?_
  refine kk H1 _ ls hL (hH.upd hz oq ?_) (hS.put hz oq (by show z ≤ z + a; omega))
  show H1[z + a]? = some (vp_cell _ _)
  rw [e1]
  rw [vp_cell_l, vp_cell_l, arrV_store]
  congr 2
  funext q
  by_cases hq : q = i.toNatClampNeg
  · subst hq
    simp [updV, vp_updL]
  · simp [updV, vp_updL, hq]
theorem x_iret (C : Cx p s m args c G own cc nL z) {mc ms : Nat} {v : Int32} {r : Option Value} {u' : HpT} {n' : Nat} (hr : meth.sig.returnType = some .int) (hlk : meth.locks = false) (h1 : kc ≤ mc) (h2 : ks ≤ ms) (d : decode cc pc = .ok (.ireturn, 1)) (hv : some (Value.int v) = r) (hu : u = u') (hn : n = n') : Xw p l e R s m args below meth c G z nL (MQ below (Qm G z r u' n') args s mc ms (zA z)) pc lo [.int v] u n kc ks := by
  intro H locs ls hL hH hS
  subst hv; subst hu; subst hn
  refine W.widen h1 h2 ?_
  exact W.iret C.1 C.2.1 hr (fun t ht hW => ⟨⟨rfl, by rw [ht]; exact hH⟩, hS.F ht⟩) hS.2.2 d hlk
theorem x_zret (C : Cx p s m args c G own cc nL z) {mc ms : Nat} {v : Int32} {r : Option Value} {u' : HpT} {n' : Nat} (hr : meth.sig.returnType = some .boolean) (hlk : meth.locks = false) (h1 : kc ≤ mc) (h2 : ks ≤ ms) (d : decode cc pc = .ok (.ireturn, 1)) (hb : narrow .boolean (.int v) = .int v) (hv : some (Value.int v) = r) (hu : u = u') (hn : n = n') : Xw p l e R s m args below meth c G z nL (MQ below (Qm G z r u' n') args s mc ms (zA z)) pc lo [.int v] u n kc ks := by
  intro H locs ls hL hH hS
  subst hv; subst hu; subst hn
  refine W.widen h1 h2 ?_
  exact W.zret C.1 C.2.1 hr hb (fun t ht hW => ⟨⟨rfl, by rw [ht]; exact hH⟩, hS.F ht⟩) hS.2.2 d hlk
theorem x_vret (C : Cx p s m args c G own cc nL z) {mc ms : Nat} {r : Option Value} {u' : HpT} {n' : Nat} (hr : meth.sig.returnType = none) (hlk : meth.locks = false) (h1 : kc ≤ mc) (h2 : ks ≤ ms) (d : decode cc pc = .ok (.return_, 1)) (hv : none = r) (hu : u = u') (hn : n = n') : Xw p l e R s m args below meth c G z nL (MQ below (Qm G z r u' n') args s mc ms (zA z)) pc lo [] u n kc ks := by
  intro H locs ls hL hH hS
  subst hv; subst hu; subst hn
  refine W.widen h1 h2 ?_
  exact W.vret C.1 C.2.1 hr (fun t ht hW => ⟨⟨rfl, by rw [ht]; exact hH⟩, hS.F ht⟩) hS.2.2 d hlk
end XR
theorem Hd.grow {G : GT} {z n : Nat} {u : HpT} {q : va_E} {H H1 : Heap} (h : Hd G z u n H) (hz : H1.size = H.size + 1) (ho : ∀ x : Nat, x < H.size → H1[x]? = H[x]?) (hq : va_at G.1 vwCl (z + n, q) H1) : Hd G z (hup u n q) (n + 1) H1 := by
  refine ⟨by rw [hz, h.1]; omega, fun k e hk => ?_⟩
  by_cases hka : k = n
  · subst hka
    rw [hup_s] at hk
    cases hk
    exact hq
  · rw [hup_n hka] at hk
    have h1 := h.2 k e hk
    exact h1.kept (ho _ h1.lt)
theorem zA_push {z : Nat} {H0 H H1 : Heap} {locs : List Loc} (h : va_S (zA z) H0 H locs) (hz : H1.size = H.size + 1) (ho : ∀ x : Nat, x < H.size → H1[x]? = H[x]?) : va_S (zA z) H0 H1 locs :=
  ⟨Nat.le_trans h.1 (by omega), fun x h1 h2 => (ho x (Nat.lt_of_lt_of_le h1 h.1)).trans (h.2.1 x h1 h2), h.2.2⟩
section XR2
variable {p : Program} {l : Launch} {e : Env} {R : Room} {s : State} {m : MethodId} {args : Array Value} {below : List Frame} {meth : Method} {c : Code} {G : GT} {z nL : Nat} {Z : State → Prop} {pc : Nat} {lo : List (Nat × Value)} {st : List Value} {u : HpT} {n kc ks : Nat} {own : String} {cc : ByteArray}
theorem x_new (C : Cx p s m args c G own cc nL z) {C' : String} {T : u_T} {N ci index : Nat} (hin : ∀ w ∈ u_ws C' T N, w ∈ lw_good) (ty0 : Nat → FieldType) (hty : ∀ k, k < N → parseFieldDescriptor (T k).2.2.1 = some (ty0 k)) (hc : vwCl[ci]? = some (C', T, N)) (hwl : Cond.classLink own index C' ∈ lw_good) (hwi : Cond.instantiable C' N ∈ lw_good) (hwn : Cond.initialized C' ∈ lw_good)
    (fs : List Value) (hfs : ∀ j, j < N → defaultValue (ty0 j) = vp_V fs j) (hcells : kc + 1 ≤ R.cells) (hslots : ks + N ≤ R.slots) (d : decode cc pc = .ok (.new index, 3))
    (kk : Xw p l e R s m args below meth c G z nL Z (pc + 3) lo (.ref (z + n) :: st) (hup u n (.inr (ci, fs))) (n + 1) (kc + 1) (ks + N)) : Xw p l e R s m args below meth c G z nL Z pc lo st u n kc ks := by
  intro H locs ls hL hH hS
  obtain ⟨hexec, hb, -, hown, hts, ⟨hK, -⟩, hzs⟩ := C
  have hKn := hK.1 ci _ hc
  refine W.newcK hexec hb hown (hts _ hwl) (hts _ hwi) (hts _ hwn) rfl d hcells hslots hKn.2.1 hH.1 fun H1 kC hkC e1 z1 o1 => ?_
  have z1' : H1.size = H.size + 1 := by rw [z1, hH.1]
  have o1' : ∀ x : Nat, x < H.size → H1[x]? = H[x]? := fun x hx => o1 x (by rw [← hH.1]; exact hx)
  exact kk H1 locs ls hL (hH.grow z1' o1' ⟨_, hc, (u_born ty0 hts hin hKn hkC e1 hty).to hfs⟩) (zA_push hS z1' o1')
theorem x_newI (C : Cx p s m args c G own cc nL z) (hw : Cond.arrayClass .int ∈ lw_good) {i : Int32} (N : Nat) (hn : ¬ i < 0) (hN : i.toNatClampNeg = N) (hbytes : N * componentBytes .int ≤ 536870912) (hcells : kc + 1 ≤ R.cells) (hslots : ks + N ≤ R.slots) (d : decode cc pc = .ok (.newarray .int, 2))
    (kk : Xw p l e R s m args below meth c G z nL Z (pc + 2) lo (.ref (z + n) :: st) (hup u n (aI G N (fun _ => 0))) (n + 1) (kc + 1) (ks + N)) : Xw p l e R s m args below meth c G z nL Z pc lo (.int i :: st) u n kc ks := by
  intro H locs ls hL hH hS
  obtain ⟨hexec, hb, -, hown, hts, ⟨hK, -⟩, hzs⟩ := C
  refine va_newaK (atype := .int) hexec hb (hts _ hw) rfl d rfl hn hN hbytes hcells hslots hH.1 fun H1 cA e1 z1 o1 hAr hNm => ?_
  have hcA : G.2 0 = cA := Option.some.inj ((hK.2 0 (G.2 0, .int) rfl).2.symm.trans hNm)
  subst hcA
  have z1' : H1.size = H.size + 1 := by rw [z1, hH.1]
  have o1' : ∀ x : Nat, x < H.size → H1[x]? = H[x]? := fun x hx => o1 x (by rw [← hH.1]; exact hx)
  refine kk H1 locs ls hL (hH.grow z1' o1' ?_) (zA_push hS z1' o1')
  show H1[z + n]? = some (vp_cell _ _)
  rw [e1, vp_cell_i]
  rfl
theorem x_newZ (C : Cx p s m args c G own cc nL z) (hw : Cond.arrayClass .boolean ∈ lw_good) {i : Int32} (N : Nat) (hn : ¬ i < 0) (hN : i.toNatClampNeg = N) (hbytes : N * componentBytes .boolean ≤ 536870912) (hcells : kc + 1 ≤ R.cells) (hslots : ks + N ≤ R.slots) (d : decode cc pc = .ok (.newarray .boolean, 2))
    (kk : Xw p l e R s m args below meth c G z nL Z (pc + 2) lo (.ref (z + n) :: st) (hup u n (aZ G N (fun _ => 0))) (n + 1) (kc + 1) (ks + N)) : Xw p l e R s m args below meth c G z nL Z pc lo (.int i :: st) u n kc ks := by
  intro H locs ls hL hH hS
  obtain ⟨hexec, hb, -, hown, hts, ⟨hK, -⟩, hzs⟩ := C
  refine va_newaK (atype := .boolean) hexec hb (hts _ hw) rfl d rfl hn hN hbytes hcells hslots hH.1 fun H1 cA e1 z1 o1 hAr hNm => ?_
  have hcA : G.2 1 = cA := Option.some.inj ((hK.2 1 (G.2 1, .boolean) rfl).2.symm.trans hNm)
  subst hcA
  have z1' : H1.size = H.size + 1 := by rw [z1, hH.1]
  have o1' : ∀ x : Nat, x < H.size → H1[x]? = H[x]? := fun x hx => o1 x (by rw [← hH.1]; exact hx)
  refine kk H1 locs ls hL (hH.grow z1' o1' ?_) (zA_push hS z1' o1')
  show H1[z + n]? = some (vp_cell _ _)
  rw [e1, vp_cell_i]
  rfl
theorem x_newL (C : Cx p s m args c G own cc nL z) (hw : Cond.arrayClass .long ∈ lw_good) {i : Int32} (N : Nat) (hn : ¬ i < 0) (hN : i.toNatClampNeg = N) (hbytes : N * componentBytes .long ≤ 536870912) (hcells : kc + 1 ≤ R.cells) (hslots : ks + N ≤ R.slots) (d : decode cc pc = .ok (.newarray .long, 2))
    (kk : Xw p l e R s m args below meth c G z nL Z (pc + 2) lo (.ref (z + n) :: st) (hup u n (aL G N (fun _ => 0))) (n + 1) (kc + 1) (ks + N)) : Xw p l e R s m args below meth c G z nL Z pc lo (.int i :: st) u n kc ks := by
  intro H locs ls hL hH hS
  obtain ⟨hexec, hb, -, hown, hts, ⟨hK, -⟩, hzs⟩ := C
  refine va_newaK (atype := .long) hexec hb (hts _ hw) rfl d rfl hn hN hbytes hcells hslots hH.1 fun H1 cA e1 z1 o1 hAr hNm => ?_
  have hcA : G.2 2 = cA := Option.some.inj ((hK.2 2 (G.2 2, .long) rfl).2.symm.trans hNm)
  subst hcA
  have z1' : H1.size = H.size + 1 := by rw [z1, hH.1]
  have o1' : ∀ x : Nat, x < H.size → H1[x]? = H[x]? := fun x hx => o1 x (by rw [← hH.1]; exact hx)
  refine kk H1 locs ls hL (hH.grow z1' o1' ?_) (zA_push hS z1' o1')
  show H1[z + n]? = some (vp_cell _ _)
  rw [e1, vp_cell_l]
  rfl
theorem x_anew0 (C : Cx p s m args c G own cc nL z) {C' : String} {index : Nat} (t0 : Nat) {cA0 : ClassId} (ht : (gtys G)[t0]? = some (cA0, .object C')) (hao : va_AO C' s) (hwl : Cond.classLink own index C' ∈ lw_good) {i : Int32} (N : Nat) (hn : ¬ i < 0) (hN : i.toNatClampNeg = N) (hbytes : N * 4 ≤ 536870912) (hcells : kc + 1 ≤ R.cells) (hslots : ks + N ≤ R.slots) (d : decode cc pc = .ok (.anewarray index, 3))
    (kk : Xw p l e R s m args below meth c G z nL Z (pc + 3) lo (.ref (z + n) :: st) (hup u n (.inl (cA0, N, .inr (.inr (.inr (.inr (fun _ => none))))))) (n + 1) (kc + 1) (ks + N)) : Xw p l e R s m args below meth c G z nL Z pc lo (.int i :: st) u n kc ks := by
  intro H locs ls hL hH hS
  obtain ⟨hexec, hb, -, hown, hts, ⟨hK, -⟩, hzs⟩ := C
  subst hN
  refine W.anew hexec hb hown (hts _ hwl) (va_AO.use hao) rfl d rfl hn hbytes hcells hslots fun cA kA comp f1 f2 f3 f4 => ?_
  obtain ⟨kA', comp', g1, g2, g3, g4⟩ := (hK.2 t0 _ ht).2
  have hcA : cA0 = cA := Option.some.inj (g4.symm.trans f1)
  subst hcA
  generalize hH1 : H.push ({ cls := cA0, slots := Array.replicate i.toNatClampNeg .null, vm := .none } : Cell) = H1
  have z1 : H1.size = H.size + 1 := by rw [← hH1, Array.size_push]
  have e1 : H1[H.size]? = some (arrV cA0 i.toNatClampNeg (fun _ => .null)) := by rw [← hH1, Array.getElem?_push_size, ← arrV_new]
  have o1 : ∀ q : Nat, q < H.size → H1[q]? = H[q]? := fun q hq => by rw [← hH1, Array.getElem?_push, if_neg (Nat.ne_of_lt hq)]
  rw [hH.1]
  refine kk H1 locs ls hL (hH.grow z1 o1 ?_) (zA_push hS z1 o1)
  show H1[z + n]? = some (vp_cell _ _)
  rw [vp_cell_q, ← hH.1]
  exact e1
theorem x_aast (C : Cx p s m args c G own cc nL z) (t0 ci : Nat) {a b N : Nat} {cA : ClassId} {r : vw_C} {vs : List Value} {f : Nat → Option Nat} {i : Int32} (ht : (gtys G)[t0]? = some (cA, .object r.1)) (hu : u a = some (.inl (cA, N, .inr (.inr (.inr (.inr f)))))) (hb : u b = some (.inr (ci, vs))) (hc : vwCl[ci]? = some r) (hin : vp_in i N) (d : decode cc pc = .ok (.aastore, 1))
    (kk : Xw p l e R s m args below meth c G z nL Z (pc + 1) lo st (hup u a (.inl (cA, N, .inr (.inr (.inr (.inr (va_up f i.toNatClampNeg (some (z + b)))))))) ) n kc ks) : Xw p l e R s m args below meth c G z nL Z pc lo (.ref (z + b) :: .int i :: .ref (z + a) :: st) u n kc ks := by
  intro H locs ls hL hH hS
  obtain ⟨hexec, hbc, -, hown, hts, ⟨hK, -⟩, hzs⟩ := C
  have hlt : i.toNatClampNeg < N := Nat.not_le.mp fun q => hin (Or.inr q)
  have h0 : ¬ i < 0 := fun q => hin (Or.inl q)
  obtain ⟨r', hr', cellV, g1, g2, g3, -⟩ := hH.2 b _ hb
  have hcls := (hK.1 ci r hc).2
  obtain ⟨kA, comp, k1, k2, k3, -⟩ := (hK.2 t0 _ ht).2
  have hcomp : comp = G.1.1 ci := Option.some.inj (k3.symm.trans hcls.1)
  subst hcomp
  obtain ⟨kC, hkC, -⟩ := hcls.2
  refine W.aast hexec hbc (hH.2 a _ hu) (fun q h => by cases h) (fun h => by cases h) k1 k2 rfl hkC ⟨h0, by show _ < (arrV _ _ _).slots.size; rw [arrV_size]; exact hlt⟩ g1 (fun q h => by rw [g3] at h; cases h) (by rw [g2]; exact hkC) (by rw [g2]; exact va_assign hcls) rfl rfl d fun H1 e1 hz oq => ?_
  refine kk H1 _ ls hL (hH.upd hz oq ?_) (hS.put hz oq (by show z ≤ z + a; omega))
  show H1[z + a]? = some (vp_cell _ _)
  rw [e1]
  rw [vp_cell_q, vp_cell_q, arrV_store]
  congr 2
  funext q
  by_cases hq : q = i.toNatClampNeg
  · subst hq
    simp [updV, va_up, va_rf]
  · simp [updV, va_up, hq]
theorem x_objInit (C : Cx p s m args c G own cc nL z) {idx : Nat} (hw1 : Cond.methodLink own idx Lib.objectInit ∈ lw_good) (hw2 : Cond.instanceMethod Lib.objectInit ∈ lw_good) (hw3 : Cond.code Lib.objectInit ⟨#[0xb1]⟩ 1 none ∈ lw_good) {a : Nat} (hfr : 1 ≤ R.frames) (hlo : (st.map fun v => v.category).sum + 12 ≤ R.locals) (d : decode cc pc = .ok (.invokespecial idx, 3))
    (kk : Xw p l e R s m args below meth c G z nL Z (pc + 3) lo st u n kc ks) : Xw p l e R s m args below meth c G z nL Z pc lo (.ref a :: st) u n kc ks :=
  fun H locs ls hl hH hS => W.objInit C.1 C.2.1 C.2.2.2.1 (C.2.2.2.2.1 _ hw1) (C.2.2.2.2.1 _ hw2) (C.2.2.2.2.1 _ hw3) rfl (by rw [C.2.2.1]; exact hl.1) rfl d hfr (by show 2 * 0 + _ + 12 ≤ _; rw [Nat.mul_zero, Nat.zero_add]; exact hlo) (kk H locs ls hl hH hS)
theorem x_run {mc ms : Nat} {st0 rest : List Value} {r : Option Value} {u' : HpT} {n' : Nat} {a : Array Value} (hr : ∀ (H : Heap) (locs : List Loc) (ls : Array Slot), lv_has ls nL lo → Hd G z u n H → va_S (zA z) s.heap H locs → va_Run p l e R s m args below meth c H locs kc ks mc ms (F0 m pc ls st0) rest (Qm G z r u' n' a) (zA z))
    (kk : Xw p l e R s m args below meth c G z nL Z (pc + 3) lo (r.toList ++ rest) u' n' (kc + mc) (ks + ms)) : Xw p l e R s m args below meth c G z nL Z pc lo st0 u n kc ks := by
  intro H locs ls hL hH hS T hT X
  obtain ⟨v, st₀, t, T', L, h0, X', hl2, e1, e2, ⟨⟨hv, hb⟩, hz, hk⟩, sg⟩ := hr H locs ls hL hH hS T hT X
  cases hv
  rw [h0] at hz hk
  obtain ⟨t2, a1, b1⟩ := kk T'.heap (locs ++ L) ls hL (by rw [e1]; exact hb)
    ⟨Nat.le_trans hS.1 (by rw [e1]; exact hz), fun q h1 h2 => by rw [e1, hk q (Nat.lt_of_lt_of_le h1 hS.1) h2]; exact hS.2.1 q h1 h2, fun q hq => by
      rcases List.mem_append.mp hq with h | h
      · exact hS.2.2 q h
      · exact hl2 q h⟩ T' rfl X'
  exact ⟨t2, sg t2 a1, b1⟩
/-- what a callee's words are -/
def ClW (y : MethodName) (bc : ByteArray) (mL : Nat) (rt : Option FieldType) (k : Nat) : Prop := Cond.code y bc mL rt ∈ lw_good ∧ Cond.initialized y.cls ∈ lw_good ∧ (y.cls ≠ "java/lang/invoke/MethodHandle" ∧ y.cls ≠ "java/lang/invoke/VarHandle" ∧ (parseMethodDescriptor y.desc).map (fun d => d.parameters.length) = some k)
def ClV (y : MethodName) (bc : ByteArray) (mL : Nat) (rt : Option FieldType) (k : Nat) : Prop := ClW y bc mL rt k ∧ Cond.instanceMethod y ∈ lw_good ∧ Cond.selects y.cls y y ∈ lw_good
def ClS (y : MethodName) (bc : ByteArray) (mL : Nat) (rt : Option FieldType) (k : Nat) : Prop := ClW y bc mL rt k ∧ Cond.static y ∈ lw_good
def ClI (y : MethodName) (bc : ByteArray) (mL : Nat) (k : Nat) : Prop := ClW y bc mL none k ∧ y.name = "<init>" ∧ Cond.instanceMethod y ∈ lw_good
theorem pc_blind {G : GT} {z : Nat} {av : List Value} {u : HpT} {n : Nat} : FrameBlind (va_Pc av (fun U => Hd G z u n U.heap ∧ Kx G U)) := fun _ _ _ _ h => ⟨h.1, h.2.1, h.2.2.calling⟩
theorem x_callV (C : Cx p s m args c G own cc nL z) {y : MethodName} {bc : ByteArray} {mL k : Nat} {rt : Option FieldType} (hC : ClV y bc mL rt k) {index : Nat} (hw : Cond.methodLink own index y ∈ lw_good) {rm : Room} {b ci : Nat} {T : u_T} {N : Nat} {fs : List Value} {As rest st0 : List Value} {r : Option Value} {u' : HpT} {n' : Nat} (hcl : vwCl[ci]? = some (y.cls, T, N)) (hu : u b = some (.inr (ci, fs)))
    (hM : Mt G l z y bc mL rt rm (.ref (z + b) :: As) u n r u' n') (hst : st0 = As.reverse ++ .ref (z + b) :: rest) (hlen : As.length = k) (hcat : (rest.map fun v => v.category).sum ≤ 8) (hR : rm.frames + 1 ≤ R.frames ∧ 8 + (mL + 11) + rm.locals ≤ R.locals) (hf : kc + rm.cells ≤ R.cells ∧ ks + rm.slots ≤ R.slots) (d : decode cc pc = .ok (.invokevirtual index, 3))
    (kk : Xw p l e R s m args below meth c G z nL Z (pc + 3) lo (r.toList ++ rest) u' n' (kc + rm.cells) (ks + rm.slots)) : Xw p l e R s m args below meth c G z nL Z pc lo st0 u n kc ks := by
  subst hst
  refine x_run (mc := rm.cells) (ms := rm.slots) (r := r) (u' := u') (n' := n') (a := (Value.ref (z + b) :: As).toArray) (fun H locs ls hL hH hS => ?_) kk
  have hts := C.2.2.2.2.1
  refine va_runV (C := y.cls) (As := As) (rest := rest) ⟨C.1, C.2.1, C.2.2.1, C.2.2.2.1, hts⟩ hM ⟨callB_of (ws' := lw_good) k hts (goodIn_good hC.1.1) rfl rfl rfl (hts _ hC.1.2.1) (hts _ hw) hC.1.2.2 hR, hts _ hC.2.1, hts _ hC.2.2⟩ ⟨pc_blind, ?_, fun U hU hW => ⟨rfl, by rw [hU]; exact hH, C.2.2.2.2.2.1.warm hW⟩⟩ rfl hlen hL.1 rfl (lv_room hcat) d hf
  exact va_recv C.2.2.2.2.2.1.1 (hH.one hu) hcl (q0 := 0) rfl
theorem x_callS (C : Cx p s m args c G own cc nL z) {y : MethodName} {bc : ByteArray} {mL k : Nat} {rt : Option FieldType} (hC : ClS y bc mL rt k) {index : Nat} (hw : Cond.methodLink own index y ∈ lw_good) {rm : Room} {As rest st0 : List Value} {r : Option Value} {u' : HpT} {n' : Nat}
    (hM : Mt G l z y bc mL rt rm As u n r u' n') (hst : st0 = As.reverse ++ rest) (hlen : As.length = k) (hcat : (rest.map fun v => v.category).sum ≤ 8) (hR : rm.frames + 1 ≤ R.frames ∧ 8 + (mL + 11) + rm.locals ≤ R.locals) (hf : kc + rm.cells ≤ R.cells ∧ ks + rm.slots ≤ R.slots) (d : decode cc pc = .ok (.invokestatic index, 3))
    (kk : Xw p l e R s m args below meth c G z nL Z (pc + 3) lo (r.toList ++ rest) u' n' (kc + rm.cells) (ks + rm.slots)) : Xw p l e R s m args below meth c G z nL Z pc lo st0 u n kc ks := by
  subst hst
  refine x_run (mc := rm.cells) (ms := rm.slots) (r := r) (u' := u') (n' := n') (a := As.toArray) (fun H locs ls hL hH hS => ?_) kk
  have hts := C.2.2.2.2.1
  exact va_runS (As := As) (rest := rest) ⟨C.1, C.2.1, C.2.2.1, C.2.2.2.1, hts⟩ hM ⟨callB_of (ws' := lw_good) k hts (goodIn_good hC.1.1) rfl rfl rfl (hts _ hC.1.2.1) (hts _ hw) hC.1.2.2 hR, hts _ hC.2⟩ ⟨pc_blind, fun U hU hW => ⟨rfl, by rw [hU]; exact hH, C.2.2.2.2.2.1.warm hW⟩⟩ rfl hlen hL.1 rfl (lv_room hcat) d hf
theorem x_callSN (C : Cx p s m args c G own cc nL z) {y : MethodName} {bc : ByteArray} {mL k : Nat} {rt : Option FieldType} (hC : ClS y bc mL rt k) {index : Nat} {host : String} (hw : Cond.methodLinkNest own index y host ∈ lw_tbl) {rm : Room} {As rest st0 : List Value} {r : Option Value} {u' : HpT} {n' : Nat}
    (hM : Mt G l z y bc mL rt rm As u n r u' n') (hst : st0 = As.reverse ++ rest) (hlen : As.length = k) (hcat : (rest.map fun v => v.category).sum ≤ 8) (hR : rm.frames + 1 ≤ R.frames ∧ 8 + (mL + 11) + rm.locals ≤ R.locals) (hf : kc + rm.cells ≤ R.cells ∧ ks + rm.slots ≤ R.slots) (d : decode cc pc = .ok (.invokestatic index, 3))
    (kk : Xw p l e R s m args below meth c G z nL Z (pc + 3) lo (r.toList ++ rest) u' n' (kc + rm.cells) (ks + rm.slots)) : Xw p l e R s m args below meth c G z nL Z pc lo st0 u n kc ks := by
  subst hst
  refine x_run (mc := rm.cells) (ms := rm.slots) (r := r) (u' := u') (n' := n') (a := As.toArray) (fun H locs ls hL hH hS => ?_) kk
  have hts := C.2.2.2.2.1
  exact va_runSN (As := As) (rest := rest) ⟨C.1, C.2.1, C.2.2.1, C.2.2.2.1, hts⟩ hM ⟨va_cnB (ws' := lw_good) k hts (goodIn_good hC.1.1) rfl rfl rfl (C.2.2.2.2.2.1.2.2.2 _ _ _ _ hw) (hts _ hC.1.2.1) hC.1.2.2 hR, hts _ hC.2, trivial⟩ ⟨pc_blind, fun U hU hW => ⟨rfl, by rw [hU]; exact hH, C.2.2.2.2.2.1.warm hW⟩⟩ rfl hlen hL.1 rfl (lv_room hcat) d hf
theorem x_callI (C : Cx p s m args c G own cc nL z) {y : MethodName} {bc : ByteArray} {mL k : Nat} (hC : ClI y bc mL k) {index : Nat} (hw : Cond.methodLink own index y ∈ lw_good) {rm : Room} {b : Nat} {As rest st0 : List Value} {r : Option Value} {u' : HpT} {n' : Nat}
    (hM : Mt G l z y bc mL none rm (.ref b :: As) u n r u' n') (hst : st0 = As.reverse ++ .ref b :: rest) (hlen : As.length = k) (hcat : (rest.map fun v => v.category).sum ≤ 8) (hR : rm.frames + 1 ≤ R.frames ∧ 8 + (mL + 11) + rm.locals ≤ R.locals) (hf : kc + rm.cells ≤ R.cells ∧ ks + rm.slots ≤ R.slots) (d : decode cc pc = .ok (.invokespecial index, 3))
    (kk : Xw p l e R s m args below meth c G z nL Z (pc + 3) lo (r.toList ++ rest) u' n' (kc + rm.cells) (ks + rm.slots)) : Xw p l e R s m args below meth c G z nL Z pc lo st0 u n kc ks := by
  subst hst
  refine x_run (mc := rm.cells) (ms := rm.slots) (r := r) (u' := u') (n' := n') (a := (Value.ref b :: As).toArray) (fun H locs ls hL hH hS => ?_) kk
  have hts := C.2.2.2.2.1
  exact va_runI (As := As) (rest := rest) ⟨C.1, C.2.1, C.2.2.1, C.2.2.2.1, hts⟩ hM ⟨callB_of (ws' := lw_good) k hts (goodIn_good hC.1.1) rfl rfl rfl (hts _ hC.1.2.1) (hts _ hw) hC.1.2.2 hR, hC.2.1, hts _ hC.2.2⟩ ⟨pc_blind, fun U hU hW => ⟨rfl, by rw [hU]; exact hH, C.2.2.2.2.2.1.warm hW⟩⟩ rfl hlen hL.1 rfl (lv_room hcat) d hf
theorem x_callIN (C : Cx p s m args c G own cc nL z) {y : MethodName} {bc : ByteArray} {mL k : Nat} (hC : ClI y bc mL k) {index : Nat} {host : String} (hw : Cond.methodLinkNest own index y host ∈ lw_tbl) {rm : Room} {b : Nat} {As rest st0 : List Value} {r : Option Value} {u' : HpT} {n' : Nat}
    (hM : Mt G l z y bc mL none rm (.ref b :: As) u n r u' n') (hst : st0 = As.reverse ++ .ref b :: rest) (hlen : As.length = k) (hcat : (rest.map fun v => v.category).sum ≤ 8) (hR : rm.frames + 1 ≤ R.frames ∧ 8 + (mL + 11) + rm.locals ≤ R.locals) (hf : kc + rm.cells ≤ R.cells ∧ ks + rm.slots ≤ R.slots) (d : decode cc pc = .ok (.invokespecial index, 3))
    (kk : Xw p l e R s m args below meth c G z nL Z (pc + 3) lo (r.toList ++ rest) u' n' (kc + rm.cells) (ks + rm.slots)) : Xw p l e R s m args below meth c G z nL Z pc lo st0 u n kc ks := by
  subst hst
  refine x_run (mc := rm.cells) (ms := rm.slots) (r := r) (u' := u') (n' := n') (a := (Value.ref b :: As).toArray) (fun H locs ls hL hH hS => ?_) kk
  have hts := C.2.2.2.2.1
  exact va_runIN (As := As) (rest := rest) ⟨C.1, C.2.1, C.2.2.1, C.2.2.2.1, hts⟩ hM ⟨va_cnB (ws' := lw_good) k hts (goodIn_good hC.1.1) rfl rfl rfl (C.2.2.2.2.2.1.2.2.2 _ _ _ _ hw) (hts _ hC.1.2.1) hC.1.2.2 hR, hC.2.1, hts _ hC.2.2⟩ ⟨pc_blind, fun U hU hW => ⟨rfl, by rw [hU]; exact hH, C.2.2.2.2.2.1.warm hW⟩⟩ rfl hlen hL.1 rfl (lv_room hcat) d hf
theorem x_max (C : Cx p s m args c G own cc nL z) {index : Nat} (hlk : Cond.methodLink own index Lib.Math.max.name ∈ lw_good) (hw2 : Cond.static Lib.Math.max.name ∈ lw_good) (hw3 : Cond.initialized "java/lang/Math" ∈ lw_good) (hw4 : Cond.code Lib.Math.max.name Lib.Math.max.code 2 (some .int) ∈ lw_good) (hfr : 1 ≤ R.frames) (hlo : (st.map fun v => v.category).sum + 13 ≤ R.locals) (hc1 : kc ≤ R.cells) (hs1 : ks ≤ R.slots) {x y : Int32} (d : decode cc pc = .ok (.invokestatic index, 3))
    (kk : Xw p l e R s m args below meth c G z nL Z (pc + 3) lo (.int (if x < y then y else x) :: st) u n kc ks) : Xw p l e R s m args below meth c G z nL Z pc lo (.int y :: .int x :: st) u n kc ks :=
  fun H locs ls hl hH hS => va_mmax C.1 C.2.1 (by rw [C.2.2.1]; exact hl.1.symm) C.2.2.2.1 (C.2.2.2.2.1 _ hlk) (C.2.2.2.2.1 _ hw2) (C.2.2.2.2.1 _ hw3) (C.2.2.2.2.1 _ hw4) hfr hlo hc1 hs1 d (kk H locs ls hl hH hS)
theorem x_min (C : Cx p s m args c G own cc nL z) {index : Nat} (hlk : Cond.methodLink own index Lib.Math.min.name ∈ lw_good) (hw2 : Cond.static Lib.Math.min.name ∈ lw_good) (hw3 : Cond.initialized "java/lang/Math" ∈ lw_good) (hw4 : Cond.code Lib.Math.min.name Lib.Math.min.code 2 (some .int) ∈ lw_good) (hfr : 1 ≤ R.frames) (hlo : (st.map fun v => v.category).sum + 13 ≤ R.locals) (hc1 : kc ≤ R.cells) (hs1 : ks ≤ R.slots) {x y : Int32} (d : decode cc pc = .ok (.invokestatic index, 3))
    (kk : Xw p l e R s m args below meth c G z nL Z (pc + 3) lo (.int (if y < x then y else x) :: st) u n kc ks) : Xw p l e R s m args below meth c G z nL Z pc lo (.int y :: .int x :: st) u n kc ks :=
  fun H locs ls hl hH hS => va_mmin C.1 C.2.1 (by rw [C.2.2.1]; exact hl.1.symm) C.2.2.2.1 (C.2.2.2.2.1 _ hlk) (C.2.2.2.2.1 _ hw2) (C.2.2.2.2.1 _ hw3) (C.2.2.2.2.1 _ hw4) hfr hlo hc1 hs1 d (kk H locs ls hl hH hS)
end XR2
end
section
theorem sub_r {big : List Cond} (ws : List Cond) (ps : List Nat) (hp : ws = ps.filterMap (fun i => big[i]?)) : ∀ w ∈ ws, w ∈ big := by
  intro w hw
  rw [hp] at hw
  obtain ⟨i, -, hi⟩ := List.mem_filterMap.mp hw
  exact List.mem_of_getElem? hi
theorem gdX1 : ∀ w ∈ u_ws RX1 TX1 10, w ∈ lw_good := in_good (sub_r _ [304, 306, 308, 310, 312, 314, 316, 318, 320, 322] (by decide +kernel)) (by decide +kernel)
theorem gdX2 : ∀ w ∈ u_ws RX2 TX2 3, w ∈ lw_good := in_good (sub_r _ [257, 259, 261] (by decide +kernel)) (by decide +kernel)
theorem gdX3 : ∀ w ∈ u_ws RX3 TX3 12, w ∈ lw_good := in_good (sub_r _ [144, 146, 148, 150, 152, 154, 156, 158, 160, 162, 164, 166] (by decide +kernel)) (by decide +kernel)
theorem gdX4 : ∀ w ∈ u_ws RX4 TX4 3, w ∈ lw_good := in_good (sub_r _ [338, 340, 342] (by decide +kernel)) (by decide +kernel)
theorem gdX5 : ∀ w ∈ u_ws RX5 TX5 7, w ∈ lw_good := in_good (sub_r _ [229, 231, 233, 235, 237, 239, 241] (by decide +kernel)) (by decide +kernel)
theorem gdX6 : ∀ w ∈ u_ws RX6 TX6 3, w ∈ lw_good := in_good (sub_r _ [182, 184, 186] (by decide +kernel)) (by decide +kernel)
theorem gdX7 : ∀ w ∈ u_ws RX7 TX7 5, w ∈ lw_good := in_good (sub_r _ [100, 102, 104, 106, 108] (by decide +kernel)) (by decide +kernel)
theorem gdX8 : ∀ w ∈ u_ws RX8 TX8 4, w ∈ lw_good := in_good (sub_r _ [205, 207, 209, 211] (by decide +kernel)) (by decide +kernel)
theorem gdX9 : ∀ w ∈ u_ws RX9 TX9 12, w ∈ lw_good := in_good (sub_r _ [357, 359, 361, 363, 365, 367, 369, 371, 373, 375, 377, 379] (by decide +kernel)) (by decide +kernel)
theorem gdX10 : ∀ w ∈ u_ws RX10 TX10 43, w ∈ lw_good := in_good (sub_r _ [881, 883, 885, 887, 889, 891, 893, 895, 897, 899, 901, 903, 905, 907, 909, 911, 913, 915, 917, 919, 921, 923, 925, 927, 929, 931, 933, 935, 937, 939, 941, 943, 945, 947, 949, 951, 953, 955, 957, 959, 961, 963, 965] (by decide +kernel)) (by decide +kernel)
theorem kzL : Cond.initialized RL ∈ lw_good := mem_good 64 (by decide +kernel) (by decide +kernel)
theorem kzX9 : Cond.initialized RX9 ∈ lw_good := mem_good 65 (by decide +kernel) (by decide +kernel)
theorem kzX7 : Cond.initialized RX7 ∈ lw_good := mem_good 66 (by decide +kernel) (by decide +kernel)
theorem kzX3 : Cond.initialized RX3 ∈ lw_good := mem_good 67 (by decide +kernel) (by decide +kernel)
theorem kzX6 : Cond.initialized RX6 ∈ lw_good := mem_good 68 (by decide +kernel) (by decide +kernel)
theorem kzX8 : Cond.initialized RX8 ∈ lw_good := mem_good 69 (by decide +kernel) (by decide +kernel)
theorem kzX5 : Cond.initialized RX5 ∈ lw_good := mem_good 70 (by decide +kernel) (by decide +kernel)
theorem kzX2 : Cond.initialized RX2 ∈ lw_good := mem_good 71 (by decide +kernel) (by decide +kernel)
theorem kzMath : Cond.initialized "java/lang/Math" ∈ lw_good := mem_good 72 (by decide +kernel) (by decide +kernel)
theorem kzX1 : Cond.initialized RX1 ∈ lw_good := mem_good 73 (by decide +kernel) (by decide +kernel)
theorem kzX4 : Cond.initialized RX4 ∈ lw_good := mem_good 74 (by decide +kernel) (by decide +kernel)
theorem kzX10 : Cond.initialized RX10 ∈ lw_good := mem_good 75 (by decide +kernel) (by decide +kernel)
theorem kzJ6 : Cond.initialized RJ6 ∈ lw_good := mem_good 76 (by decide +kernel) (by decide +kernel)
theorem kzX0 : Cond.initialized RX0 ∈ lw_good := mem_good 77 (by decide +kernel) (by decide +kernel)
theorem koL_7 : Cond.classLink RL 7 RX9 ∈ lw_good := mem_good 78 (by decide +kernel) (by decide +kernel)
theorem kiX9 : Cond.instantiable RX9 12 ∈ lw_good := mem_good 79 (by decide +kernel) (by decide +kernel)
theorem kmL_9 : Cond.methodLink RL 9 yX9_init ∈ lw_good := mem_good 80 (by decide +kernel) (by decide +kernel)
theorem kmX9_1 : Cond.methodLink RX9 1 Lib.objectInit ∈ lw_good := mem_good 83 (by decide +kernel) (by decide +kernel)
theorem koX9_7 : Cond.classLink RX9 7 RX7 ∈ lw_good := mem_good 86 (by decide +kernel) (by decide +kernel)
theorem kiX7 : Cond.instantiable RX7 5 ∈ lw_good := mem_good 87 (by decide +kernel) (by decide +kernel)
theorem knX9_9 : Cond.methodLinkNest RX9 9 yX7_init "TollDelay" ∈ lw_tbl := List.mem_of_getElem? (i := 88) (by decide +kernel)
theorem kmX7_3 : Cond.methodLink RX7 3 Lib.objectInit ∈ lw_good := mem_good 91 (by decide +kernel) (by decide +kernel)
theorem kfX7_9 : Cond.fieldLink RX7 9 "TollDelay$Reader" "letters" "[I" ∈ lw_good := mem_good 92 (by decide +kernel) (by decide +kernel)
theorem kfX7_15 : Cond.fieldLink RX7 15 "TollDelay$Reader" "length" "I" ∈ lw_good := mem_good 93 (by decide +kernel) (by decide +kernel)
theorem kfX9_85 : Cond.fieldLink RX9 85 "TollDelay$Reader" "length" "I" ∈ lw_good := mem_good 94 (by decide +kernel) (by decide +kernel)
theorem kfX7_19 : Cond.fieldLink RX7 19 "TollDelay$Reader" "at" "I" ∈ lw_good := mem_good 95 (by decide +kernel) (by decide +kernel)
theorem kfX7_22 : Cond.fieldLink RX7 22 "TollDelay$Reader" "faultKind" "I" ∈ lw_good := mem_good 96 (by decide +kernel) (by decide +kernel)
theorem kfX9_97 : Cond.fieldLink RX9 97 "TollDelay$Reader" "faultKind" "I" ∈ lw_good := mem_good 97 (by decide +kernel) (by decide +kernel)
theorem kfX7_25 : Cond.fieldLink RX7 25 "TollDelay$Reader" "faultAt" "I" ∈ lw_good := mem_good 98 (by decide +kernel) (by decide +kernel)
theorem kfX9_96 : Cond.fieldLink RX9 96 "TollDelay$Reader" "faultAt" "I" ∈ lw_good := mem_good 99 (by decide +kernel) (by decide +kernel)
theorem ka_int : Cond.arrayClass .int ∈ lw_good := mem_good 111 (by decide +kernel) (by decide +kernel)
theorem koX9_16 : Cond.classLink RX9 16 RX3 ∈ lw_good := mem_good 112 (by decide +kernel) (by decide +kernel)
theorem kiX3 : Cond.instantiable RX3 12 ∈ lw_good := mem_good 113 (by decide +kernel) (by decide +kernel)
theorem knX9_18 : Cond.methodLinkNest RX9 18 yX3_init "TollDelay" ∈ lw_tbl := List.mem_of_getElem? (i := 114) (by decide +kernel)
theorem kmX3_3 : Cond.methodLink RX3 3 Lib.objectInit ∈ lw_good := mem_good 117 (by decide +kernel) (by decide +kernel)
theorem kfX3_9 : Cond.fieldLink RX3 9 "TollDelay$Evening" "clock" "I" ∈ lw_good := mem_good 118 (by decide +kernel) (by decide +kernel)
theorem kfX9_149 : Cond.fieldLink RX9 149 "TollDelay$Evening" "clock" "I" ∈ lw_good := mem_good 119 (by decide +kernel) (by decide +kernel)
theorem kfX3_15 : Cond.fieldLink RX3 15 "TollDelay$Evening" "evenings" "I" ∈ lw_good := mem_good 120 (by decide +kernel) (by decide +kernel)
theorem kfX9_152 : Cond.fieldLink RX9 152 "TollDelay$Evening" "evenings" "I" ∈ lw_good := mem_good 121 (by decide +kernel) (by decide +kernel)
theorem kfX3_18 : Cond.fieldLink RX3 18 "TollDelay$Evening" "paid" "I" ∈ lw_good := mem_good 122 (by decide +kernel) (by decide +kernel)
theorem kfX9_155 : Cond.fieldLink RX9 155 "TollDelay$Evening" "paid" "I" ∈ lw_good := mem_good 123 (by decide +kernel) (by decide +kernel)
theorem kfX3_21 : Cond.fieldLink RX3 21 "TollDelay$Evening" "known" "I" ∈ lw_good := mem_good 124 (by decide +kernel) (by decide +kernel)
theorem kfX5_48 : Cond.fieldLink RX5 48 "TollDelay$Evening" "known" "I" ∈ lw_good := mem_good 125 (by decide +kernel) (by decide +kernel)
theorem kfX9_134 : Cond.fieldLink RX9 134 "TollDelay$Evening" "known" "I" ∈ lw_good := mem_good 126 (by decide +kernel) (by decide +kernel)
theorem kfX3_24 : Cond.fieldLink RX3 24 "TollDelay$Evening" "sits" "I" ∈ lw_good := mem_good 127 (by decide +kernel) (by decide +kernel)
theorem kfX9_158 : Cond.fieldLink RX9 158 "TollDelay$Evening" "sits" "I" ∈ lw_good := mem_good 128 (by decide +kernel) (by decide +kernel)
theorem kfX3_27 : Cond.fieldLink RX3 27 "TollDelay$Evening" "toldHim" "I" ∈ lw_good := mem_good 129 (by decide +kernel) (by decide +kernel)
theorem kfX9_161 : Cond.fieldLink RX9 161 "TollDelay$Evening" "toldHim" "I" ∈ lw_good := mem_good 130 (by decide +kernel) (by decide +kernel)
theorem kfX3_30 : Cond.fieldLink RX3 30 "TollDelay$Evening" "toldLast" "I" ∈ lw_good := mem_good 131 (by decide +kernel) (by decide +kernel)
theorem kfX9_164 : Cond.fieldLink RX9 164 "TollDelay$Evening" "toldLast" "I" ∈ lw_good := mem_good 132 (by decide +kernel) (by decide +kernel)
theorem kfX3_33 : Cond.fieldLink RX3 33 "TollDelay$Evening" "waits" "I" ∈ lw_good := mem_good 133 (by decide +kernel) (by decide +kernel)
theorem kfX5_39 : Cond.fieldLink RX5 39 "TollDelay$Evening" "waits" "I" ∈ lw_good := mem_good 134 (by decide +kernel) (by decide +kernel)
theorem kfX9_167 : Cond.fieldLink RX9 167 "TollDelay$Evening" "waits" "I" ∈ lw_good := mem_good 135 (by decide +kernel) (by decide +kernel)
theorem kfX3_36 : Cond.fieldLink RX3 36 "TollDelay$Evening" "passed" "I" ∈ lw_good := mem_good 136 (by decide +kernel) (by decide +kernel)
theorem kfX9_170 : Cond.fieldLink RX9 170 "TollDelay$Evening" "passed" "I" ∈ lw_good := mem_good 137 (by decide +kernel) (by decide +kernel)
theorem kfX3_39 : Cond.fieldLink RX3 39 "TollDelay$Evening" "turned" "I" ∈ lw_good := mem_good 138 (by decide +kernel) (by decide +kernel)
theorem kfX9_173 : Cond.fieldLink RX9 173 "TollDelay$Evening" "turned" "I" ∈ lw_good := mem_good 139 (by decide +kernel) (by decide +kernel)
theorem kfX3_42 : Cond.fieldLink RX3 42 "TollDelay$Evening" "waited" "[I" ∈ lw_good := mem_good 140 (by decide +kernel) (by decide +kernel)
theorem kfX9_208 : Cond.fieldLink RX9 208 "TollDelay$Evening" "waited" "[I" ∈ lw_good := mem_good 141 (by decide +kernel) (by decide +kernel)
theorem kfX3_46 : Cond.fieldLink RX3 46 "TollDelay$Evening" "sat" "[I" ∈ lw_good := mem_good 142 (by decide +kernel) (by decide +kernel)
theorem kfX9_205 : Cond.fieldLink RX9 205 "TollDelay$Evening" "sat" "[I" ∈ lw_good := mem_good 143 (by decide +kernel) (by decide +kernel)
theorem koX9_23 : Cond.classLink RX9 23 RX6 ∈ lw_good := mem_good 169 (by decide +kernel) (by decide +kernel)
theorem kiX6 : Cond.instantiable RX6 3 ∈ lw_good := mem_good 170 (by decide +kernel) (by decide +kernel)
theorem kmX9_25 : Cond.methodLink RX9 25 yX6_init ∈ lw_good := mem_good 171 (by decide +kernel) (by decide +kernel)
theorem kmX6_3 : Cond.methodLink RX6 3 Lib.objectInit ∈ lw_good := mem_good 174 (by decide +kernel) (by decide +kernel)
theorem koX6_9 : Cond.classLink RX6 9 RX3 ∈ lw_good := mem_good 175 (by decide +kernel) (by decide +kernel)
theorem knX6_24 : Cond.methodLinkNest RX6 24 yX3_init "TollDelay" ∈ lw_tbl := List.mem_of_getElem? (i := 177) (by decide +kernel)
theorem kfX6_11 : Cond.fieldLink RX6 11 "TollDelay$Past" "ring" "[LTollDelay$Evening;" ∈ lw_good := mem_good 178 (by decide +kernel) (by decide +kernel)
theorem kfX6_17 : Cond.fieldLink RX6 17 "TollDelay$Past" "count" "I" ∈ lw_good := mem_good 179 (by decide +kernel) (by decide +kernel)
theorem kfX9_144 : Cond.fieldLink RX9 144 "TollDelay$Past" "count" "I" ∈ lw_good := mem_good 180 (by decide +kernel) (by decide +kernel)
theorem kfX6_21 : Cond.fieldLink RX6 21 "TollDelay$Past" "next" "I" ∈ lw_good := mem_good 181 (by decide +kernel) (by decide +kernel)
theorem koX9_30 : Cond.classLink RX9 30 RX4 ∈ lw_good := mem_good 189 (by decide +kernel) (by decide +kernel)
theorem koX9_36 : Cond.classLink RX9 36 RX8 ∈ lw_good := mem_good 191 (by decide +kernel) (by decide +kernel)
theorem kiX8 : Cond.instantiable RX8 4 ∈ lw_good := mem_good 192 (by decide +kernel) (by decide +kernel)
theorem knX9_38 : Cond.methodLinkNest RX9 38 yX8_init "TollDelay" ∈ lw_tbl := List.mem_of_getElem? (i := 193) (by decide +kernel)
theorem kmX8_3 : Cond.methodLink RX8 3 Lib.objectInit ∈ lw_good := mem_good 196 (by decide +kernel) (by decide +kernel)
theorem kfX8_9 : Cond.fieldLink RX8 9 "TollDelay$Talk" "sums" "[I" ∈ lw_good := mem_good 197 (by decide +kernel) (by decide +kernel)
theorem kfX8_15 : Cond.fieldLink RX8 15 "TollDelay$Talk" "minutes" "I" ∈ lw_good := mem_good 198 (by decide +kernel) (by decide +kernel)
theorem kfX5_57 : Cond.fieldLink RX5 57 "TollDelay$Talk" "minutes" "I" ∈ lw_good := mem_good 199 (by decide +kernel) (by decide +kernel)
theorem kfX9_286 : Cond.fieldLink RX9 286 "TollDelay$Talk" "minutes" "I" ∈ lw_good := mem_good 200 (by decide +kernel) (by decide +kernel)
theorem kfX8_19 : Cond.fieldLink RX8 19 "TollDelay$Talk" "first" "I" ∈ lw_good := mem_good 201 (by decide +kernel) (by decide +kernel)
theorem kfX9_289 : Cond.fieldLink RX9 289 "TollDelay$Talk" "first" "I" ∈ lw_good := mem_good 202 (by decide +kernel) (by decide +kernel)
theorem kfX8_22 : Cond.fieldLink RX8 22 "TollDelay$Talk" "count" "I" ∈ lw_good := mem_good 203 (by decide +kernel) (by decide +kernel)
theorem kfX9_292 : Cond.fieldLink RX9 292 "TollDelay$Talk" "count" "I" ∈ lw_good := mem_good 204 (by decide +kernel) (by decide +kernel)
theorem koX9_43 : Cond.classLink RX9 43 RX5 ∈ lw_good := mem_good 214 (by decide +kernel) (by decide +kernel)
theorem kiX5 : Cond.instantiable RX5 7 ∈ lw_good := mem_good 215 (by decide +kernel) (by decide +kernel)
theorem knX9_45 : Cond.methodLinkNest RX9 45 yX5_init "TollDelay" ∈ lw_tbl := List.mem_of_getElem? (i := 216) (by decide +kernel)
theorem kmX5_3 : Cond.methodLink RX5 3 Lib.objectInit ∈ lw_good := mem_good 219 (by decide +kernel) (by decide +kernel)
theorem kfX5_9 : Cond.fieldLink RX5 9 "TollDelay$Line" "order" "[I" ∈ lw_good := mem_good 220 (by decide +kernel) (by decide +kernel)
theorem kfX5_15 : Cond.fieldLink RX5 15 "TollDelay$Line" "minutes" "[I" ∈ lw_good := mem_good 221 (by decide +kernel) (by decide +kernel)
theorem kfX5_18 : Cond.fieldLink RX5 18 "TollDelay$Line" "pay" "[I" ∈ lw_good := mem_good 222 (by decide +kernel) (by decide +kernel)
theorem kfX5_21 : Cond.fieldLink RX5 21 "TollDelay$Line" "patience" "[I" ∈ lw_good := mem_good 223 (by decide +kernel) (by decide +kernel)
theorem kfX5_24 : Cond.fieldLink RX5 24 "TollDelay$Line" "size" "I" ∈ lw_good := mem_good 224 (by decide +kernel) (by decide +kernel)
theorem kfX5_28 : Cond.fieldLink RX5 28 "TollDelay$Line" "bestPay" "I" ∈ lw_good := mem_good 225 (by decide +kernel) (by decide +kernel)
theorem kfX9_303 : Cond.fieldLink RX9 303 "TollDelay$Line" "bestPay" "I" ∈ lw_good := mem_good 226 (by decide +kernel) (by decide +kernel)
theorem kfX5_31 : Cond.fieldLink RX5 31 "TollDelay$Line" "bestFigures" "I" ∈ lw_good := mem_good 227 (by decide +kernel) (by decide +kernel)
theorem kfX9_306 : Cond.fieldLink RX9 306 "TollDelay$Line" "bestFigures" "I" ∈ lw_good := mem_good 228 (by decide +kernel) (by decide +kernel)
theorem koX9_50 : Cond.classLink RX9 50 RX2 ∈ lw_good := mem_good 244 (by decide +kernel) (by decide +kernel)
theorem kiX2 : Cond.instantiable RX2 3 ∈ lw_good := mem_good 245 (by decide +kernel) (by decide +kernel)
theorem kmX9_52 : Cond.methodLink RX9 52 yX2_init ∈ lw_good := mem_good 246 (by decide +kernel) (by decide +kernel)
theorem kmX2_3 : Cond.methodLink RX2 3 Lib.objectInit ∈ lw_good := mem_good 249 (by decide +kernel) (by decide +kernel)
theorem kmX2_15 : Cond.methodLink RX2 15 Lib.Math.max.name ∈ lw_good := mem_good 250 (by decide +kernel) (by decide +kernel)
theorem kfX2_21 : Cond.fieldLink RX2 21 "TollDelay$Entries" "who" "[I" ∈ lw_good := mem_good 253 (by decide +kernel) (by decide +kernel)
theorem kfX2_25 : Cond.fieldLink RX2 25 "TollDelay$Entries" "minutes" "[I" ∈ lw_good := mem_good 254 (by decide +kernel) (by decide +kernel)
theorem kfX2_9 : Cond.fieldLink RX2 9 "TollDelay$Entries" "count" "I" ∈ lw_good := mem_good 255 (by decide +kernel) (by decide +kernel)
theorem kfX9_141 : Cond.fieldLink RX9 141 "TollDelay$Entries" "count" "I" ∈ lw_good := mem_good 256 (by decide +kernel) (by decide +kernel)
theorem koX9_62 : Cond.classLink RX9 62 RX1 ∈ lw_good := mem_good 264 (by decide +kernel) (by decide +kernel)
theorem kiX1 : Cond.instantiable RX1 10 ∈ lw_good := mem_good 265 (by decide +kernel) (by decide +kernel)
theorem knX9_64 : Cond.methodLinkNest RX9 64 yX1_init "TollDelay" ∈ lw_tbl := List.mem_of_getElem? (i := 266) (by decide +kernel)
theorem kmX1_3 : Cond.methodLink RX1 3 Lib.objectInit ∈ lw_good := mem_good 269 (by decide +kernel) (by decide +kernel)
theorem kfX1_9 : Cond.fieldLink RX1 9 "TollDelay$Bridge" "quarter" "I" ∈ lw_good := mem_good 270 (by decide +kernel) (by decide +kernel)
theorem kfX9_117 : Cond.fieldLink RX9 117 "TollDelay$Bridge" "quarter" "I" ∈ lw_good := mem_good 271 (by decide +kernel) (by decide +kernel)
theorem kfX7_81 : Cond.fieldLink RX7 81 "TollDelay$Bridge" "quarter" "I" ∈ lw_good := mem_good 272 (by decide +kernel) (by decide +kernel)
theorem kfX1_15 : Cond.fieldLink RX1 15 "TollDelay$Bridge" "rate" "I" ∈ lw_good := mem_good 273 (by decide +kernel) (by decide +kernel)
theorem kfX9_120 : Cond.fieldLink RX9 120 "TollDelay$Bridge" "rate" "I" ∈ lw_good := mem_good 274 (by decide +kernel) (by decide +kernel)
theorem kfX7_84 : Cond.fieldLink RX7 84 "TollDelay$Bridge" "rate" "I" ∈ lw_good := mem_good 275 (by decide +kernel) (by decide +kernel)
theorem kfX1_18 : Cond.fieldLink RX1 18 "TollDelay$Bridge" "matters" "I" ∈ lw_good := mem_good 276 (by decide +kernel) (by decide +kernel)
theorem kfX8_25 : Cond.fieldLink RX8 25 "TollDelay$Bridge" "matters" "I" ∈ lw_good := mem_good 277 (by decide +kernel) (by decide +kernel)
theorem kfX3_49 : Cond.fieldLink RX3 49 "TollDelay$Bridge" "matters" "I" ∈ lw_good := mem_good 278 (by decide +kernel) (by decide +kernel)
theorem kfX0_27 : Cond.fieldLink RX0 27 "TollDelay$Bridge" "matters" "I" ∈ lw_good := mem_good 279 (by decide +kernel) (by decide +kernel)
theorem kfX2_28 : Cond.fieldLink RX2 28 "TollDelay$Bridge" "matters" "I" ∈ lw_good := mem_good 280 (by decide +kernel) (by decide +kernel)
theorem kfX9_123 : Cond.fieldLink RX9 123 "TollDelay$Bridge" "matters" "I" ∈ lw_good := mem_good 281 (by decide +kernel) (by decide +kernel)
theorem kfX7_68 : Cond.fieldLink RX7 68 "TollDelay$Bridge" "matters" "I" ∈ lw_good := mem_good 282 (by decide +kernel) (by decide +kernel)
theorem kfX1_21 : Cond.fieldLink RX1 21 "TollDelay$Bridge" "travellers" "I" ∈ lw_good := mem_good 283 (by decide +kernel) (by decide +kernel)
theorem kfX5_34 : Cond.fieldLink RX5 34 "TollDelay$Bridge" "travellers" "I" ∈ lw_good := mem_good 284 (by decide +kernel) (by decide +kernel)
theorem kfX0_15 : Cond.fieldLink RX0 15 "TollDelay$Bridge" "travellers" "I" ∈ lw_good := mem_good 285 (by decide +kernel) (by decide +kernel)
theorem kfX3_61 : Cond.fieldLink RX3 61 "TollDelay$Bridge" "travellers" "I" ∈ lw_good := mem_good 286 (by decide +kernel) (by decide +kernel)
theorem kfX9_103 : Cond.fieldLink RX9 103 "TollDelay$Bridge" "travellers" "I" ∈ lw_good := mem_good 287 (by decide +kernel) (by decide +kernel)
theorem kfX8_53 : Cond.fieldLink RX8 53 "TollDelay$Bridge" "travellers" "I" ∈ lw_good := mem_good 288 (by decide +kernel) (by decide +kernel)
theorem kfX7_71 : Cond.fieldLink RX7 71 "TollDelay$Bridge" "travellers" "I" ∈ lw_good := mem_good 289 (by decide +kernel) (by decide +kernel)
theorem kfX1_24 : Cond.fieldLink RX1 24 "TollDelay$Bridge" "lasts" "[I" ∈ lw_good := mem_good 290 (by decide +kernel) (by decide +kernel)
theorem kfX9_180 : Cond.fieldLink RX9 180 "TollDelay$Bridge" "lasts" "[I" ∈ lw_good := mem_good 291 (by decide +kernel) (by decide +kernel)
theorem kfX1_28 : Cond.fieldLink RX1 28 "TollDelay$Bridge" "leadsTo" "[I" ∈ lw_good := mem_good 292 (by decide +kernel) (by decide +kernel)
theorem kfX9_184 : Cond.fieldLink RX9 184 "TollDelay$Bridge" "leadsTo" "[I" ∈ lw_good := mem_good 293 (by decide +kernel) (by decide +kernel)
theorem kfX3_95 : Cond.fieldLink RX3 95 "TollDelay$Bridge" "leadsTo" "[I" ∈ lw_good := mem_good 294 (by decide +kernel) (by decide +kernel)
theorem kfX1_31 : Cond.fieldLink RX1 31 "TollDelay$Bridge" "kind" "[I" ∈ lw_good := mem_good 295 (by decide +kernel) (by decide +kernel)
theorem kfX9_196 : Cond.fieldLink RX9 196 "TollDelay$Bridge" "kind" "[I" ∈ lw_good := mem_good 296 (by decide +kernel) (by decide +kernel)
theorem kfX1_34 : Cond.fieldLink RX1 34 "TollDelay$Bridge" "hurry" "[I" ∈ lw_good := mem_good 297 (by decide +kernel) (by decide +kernel)
theorem kfX9_199 : Cond.fieldLink RX9 199 "TollDelay$Bridge" "hurry" "[I" ∈ lw_good := mem_good 298 (by decide +kernel) (by decide +kernel)
theorem kfX1_37 : Cond.fieldLink RX1 37 "TollDelay$Bridge" "cannot" "[I" ∈ lw_good := mem_good 299 (by decide +kernel) (by decide +kernel)
theorem kfX9_202 : Cond.fieldLink RX9 202 "TollDelay$Bridge" "cannot" "[I" ∈ lw_good := mem_good 300 (by decide +kernel) (by decide +kernel)
theorem kfX3_110 : Cond.fieldLink RX3 110 "TollDelay$Bridge" "cannot" "[I" ∈ lw_good := mem_good 301 (by decide +kernel) (by decide +kernel)
theorem kfX1_40 : Cond.fieldLink RX1 40 "TollDelay$Bridge" "beginners" "[I" ∈ lw_good := mem_good 302 (by decide +kernel) (by decide +kernel)
theorem kfX8_41 : Cond.fieldLink RX8 41 "TollDelay$Bridge" "beginners" "[I" ∈ lw_good := mem_good 303 (by decide +kernel) (by decide +kernel)
theorem kiX4 : Cond.instantiable RX4 3 ∈ lw_good := mem_good 325 (by decide +kernel) (by decide +kernel)
theorem knX9_79 : Cond.methodLinkNest RX9 79 yX4_init "TollDelay" ∈ lw_tbl := List.mem_of_getElem? (i := 326) (by decide +kernel)
theorem kmX4_1 : Cond.methodLink RX4 1 Lib.objectInit ∈ lw_good := mem_good 329 (by decide +kernel) (by decide +kernel)
theorem koX4_7 : Cond.classLink RX4 7 RX3 ∈ lw_good := mem_good 330 (by decide +kernel) (by decide +kernel)
theorem knX4_9 : Cond.methodLinkNest RX4 9 yX3_init "TollDelay" ∈ lw_tbl := List.mem_of_getElem? (i := 331) (by decide +kernel)
theorem kfX4_10 : Cond.fieldLink RX4 10 "TollDelay$Image" "evening" "LTollDelay$Evening;" ∈ lw_good := mem_good 332 (by decide +kernel) (by decide +kernel)
theorem kfX9_327 : Cond.fieldLink RX9 327 "TollDelay$Image" "evening" "LTollDelay$Evening;" ∈ lw_good := mem_good 333 (by decide +kernel) (by decide +kernel)
theorem kfX4_16 : Cond.fieldLink RX4 16 "TollDelay$Image" "drawn" "I" ∈ lw_good := mem_good 334 (by decide +kernel) (by decide +kernel)
theorem kfX9_331 : Cond.fieldLink RX9 331 "TollDelay$Image" "drawn" "I" ∈ lw_good := mem_good 335 (by decide +kernel) (by decide +kernel)
theorem kfX4_20 : Cond.fieldLink RX4 20 "TollDelay$Image" "kept" "Z" ∈ lw_good := mem_good 336 (by decide +kernel) (by decide +kernel)
theorem kfX9_113 : Cond.fieldLink RX9 113 "TollDelay$Image" "kept" "Z" ∈ lw_good := mem_good 337 (by decide +kernel) (by decide +kernel)
theorem kfX9_10 : Cond.fieldLink RX9 10 "TollDelay" "reader" "LTollDelay$Reader;" ∈ lw_good := mem_good 345 (by decide +kernel) (by decide +kernel)
theorem kfX9_19 : Cond.fieldLink RX9 19 "TollDelay" "evening" "LTollDelay$Evening;" ∈ lw_good := mem_good 346 (by decide +kernel) (by decide +kernel)
theorem kfX9_26 : Cond.fieldLink RX9 26 "TollDelay" "past" "LTollDelay$Past;" ∈ lw_good := mem_good 347 (by decide +kernel) (by decide +kernel)
theorem kfX9_32 : Cond.fieldLink RX9 32 "TollDelay" "images" "[LTollDelay$Image;" ∈ lw_good := mem_good 348 (by decide +kernel) (by decide +kernel)
theorem kfX9_39 : Cond.fieldLink RX9 39 "TollDelay" "trial" "LTollDelay$Talk;" ∈ lw_good := mem_good 349 (by decide +kernel) (by decide +kernel)
theorem kfX9_46 : Cond.fieldLink RX9 46 "TollDelay" "line" "LTollDelay$Line;" ∈ lw_good := mem_good 350 (by decide +kernel) (by decide +kernel)
theorem kfX9_55 : Cond.fieldLink RX9 55 "TollDelay" "clues" "LTollDelay$Entries;" ∈ lw_good := mem_good 351 (by decide +kernel) (by decide +kernel)
theorem kfX9_59 : Cond.fieldLink RX9 59 "TollDelay" "book" "LTollDelay$Entries;" ∈ lw_good := mem_good 352 (by decide +kernel) (by decide +kernel)
theorem kfX9_65 : Cond.fieldLink RX9 65 "TollDelay" "stands" "LTollDelay$Bridge;" ∈ lw_good := mem_good 353 (by decide +kernel) (by decide +kernel)
theorem kfX9_69 : Cond.fieldLink RX9 69 "TollDelay" "draft" "LTollDelay$Bridge;" ∈ lw_good := mem_good 354 (by decide +kernel) (by decide +kernel)
theorem kfX9_72 : Cond.fieldLink RX9 72 "TollDelay" "drawn" "I" ∈ lw_good := mem_good 355 (by decide +kernel) (by decide +kernel)
theorem kfX9_76 : Cond.fieldLink RX9 76 "TollDelay" "faultAt" "I" ∈ lw_good := mem_good 356 (by decide +kernel) (by decide +kernel)
theorem kmL_13 : Cond.methodLink RL 13 yX9_feed ∈ lw_good := mem_good 382 (by decide +kernel) (by decide +kernel)
theorem kcX9_80 : Cond.constant RX9 80 (-1000000002) ∈ lw_good := mem_good 386 (by decide +kernel) (by decide +kernel)
theorem kmX9_81 : Cond.methodLink RX9 81 yX7_add ∈ lw_good := mem_good 387 (by decide +kernel) (by decide +kernel)
theorem kcX9_88 : Cond.constant RX9 88 (-1000000004) ∈ lw_good := mem_good 391 (by decide +kernel) (by decide +kernel)
theorem kmL_18 : Cond.methodLink RL 18 yX9_bridge ∈ lw_good := mem_good 392 (by decide +kernel) (by decide +kernel)
theorem kmX9_89 : Cond.methodLink RX9 89 yX7_readInto ∈ lw_good := mem_good 396 (by decide +kernel) (by decide +kernel)
theorem kmX7_28 : Cond.methodLink RX7 28 yX1_clear ∈ lw_good := mem_good 400 (by decide +kernel) (by decide +kernel)
theorem kmX7_33 : Cond.methodLink RX7 33 yX7_skipBlanks ∈ lw_good := mem_good 404 (by decide +kernel) (by decide +kernel)
theorem kmX7_43 : Cond.methodLink RX7 43 yX7_nextLetter ∈ lw_good := mem_good 408 (by decide +kernel) (by decide +kernel)
theorem kmX7_36 : Cond.methodLink RX7 36 yX7_readClause ∈ lw_good := mem_good 412 (by decide +kernel) (by decide +kernel)
theorem kmX7_47 : Cond.methodLink RX7 47 yX7_faultOfWord ∈ lw_good := mem_good 416 (by decide +kernel) (by decide +kernel)
theorem kmX7_64 : Cond.methodLink RX7 64 yX1_isThere ∈ lw_good := mem_good 419 (by decide +kernel) (by decide +kernel)
theorem kmX7_51 : Cond.methodLink RX7 51 yX7_note ∈ lw_good := mem_good 423 (by decide +kernel) (by decide +kernel)
theorem kmX7_55 : Cond.methodLink RX7 55 yX7_readRate ∈ lw_good := mem_good 427 (by decide +kernel) (by decide +kernel)
theorem kmX7_74 : Cond.methodLink RX7 74 yX7_readNumber ∈ lw_good := mem_good 431 (by decide +kernel) (by decide +kernel)
theorem kmX7_94 : Cond.methodLink RX7 94 yX7_isFigure ∈ lw_good := mem_good 435 (by decide +kernel) (by decide +kernel)
theorem kmX7_78 : Cond.methodLink RX7 78 yX7_readEnd ∈ lw_good := mem_good 438 (by decide +kernel) (by decide +kernel)
theorem kmX7_58 : Cond.methodLink RX7 58 yX7_readMatter ∈ lw_good := mem_good 442 (by decide +kernel) (by decide +kernel)
theorem kmX7_87 : Cond.methodLink RX7 87 yX1_addMatter ∈ lw_good := mem_good 446 (by decide +kernel) (by decide +kernel)
theorem kmX7_61 : Cond.methodLink RX7 61 yX7_readTraveller ∈ lw_good := mem_good 450 (by decide +kernel) (by decide +kernel)
theorem kmX7_90 : Cond.methodLink RX7 90 yX1_addTraveller ∈ lw_good := mem_good 454 (by decide +kernel) (by decide +kernel)
theorem kmX7_40 : Cond.methodLink RX7 40 yX1_settle ∈ lw_good := mem_good 458 (by decide +kernel) (by decide +kernel)
theorem knX1_43 : Cond.methodLinkNest RX1 43 yX9_setOfFirst "TollDelay" ∈ lw_tbl := List.mem_of_getElem? (i := 462) (by decide +kernel)
theorem kmX1_47 : Cond.methodLink RX1 47 yX1_beginnersOf ∈ lw_good := mem_good 465 (by decide +kernel) (by decide +kernel)
theorem knX1_50 : Cond.methodLinkNest RX1 50 yX9_holds "TollDelay" ∈ lw_tbl := List.mem_of_getElem? (i := 469) (by decide +kernel)
theorem kmX9_93 : Cond.methodLink RX9 93 yX7_empty ∈ lw_good := mem_good 472 (by decide +kernel) (by decide +kernel)
theorem kmX9_100 : Cond.methodLink RX9 100 yX9_beginBridge ∈ lw_good := mem_good 476 (by decide +kernel) (by decide +kernel)
theorem kmX9_106 : Cond.methodLink RX9 106 yX3_begin ∈ lw_good := mem_good 480 (by decide +kernel) (by decide +kernel)
theorem kmX3_54 : Cond.methodLink RX3 54 yX3_gather ∈ lw_good := mem_good 484 (by decide +kernel) (by decide +kernel)
theorem kmX3_58 : Cond.methodLink RX3 58 yX3_emptySeat ∈ lw_good := mem_good 488 (by decide +kernel) (by decide +kernel)
theorem knX3_64 : Cond.methodLinkNest RX3 64 yX9_setOfFirst "TollDelay" ∈ lw_tbl := List.mem_of_getElem? (i := 492) (by decide +kernel)
theorem kmX9_109 : Cond.methodLink RX9 109 yX6_forget ∈ lw_good := mem_good 493 (by decide +kernel) (by decide +kernel)
theorem kmX9_112 : Cond.methodLink RX9 112 yX2_forget ∈ lw_good := mem_good 497 (by decide +kernel) (by decide +kernel)
theorem kmL_23 : Cond.methodLink RL 23 yX9_fault ∈ lw_good := mem_good 501 (by decide +kernel) (by decide +kernel)
theorem kmL_27 : Cond.methodLink RL 27 yX9_told ∈ lw_good := mem_good 505 (by decide +kernel) (by decide +kernel)
theorem kmX9_126 : Cond.methodLink RX9 126 yX1_nobodys ∈ lw_good := mem_good 509 (by decide +kernel) (by decide +kernel)
theorem kmX9_130 : Cond.methodLink RX9 130 yX3_longestSat ∈ lw_good := mem_good 513 (by decide +kernel) (by decide +kernel)
theorem kmX9_137 : Cond.methodLink RX9 137 yX8_bestToLearn ∈ lw_good := mem_good 517 (by decide +kernel) (by decide +kernel)
theorem knX8_63 : Cond.methodLinkNest RX8 63 yX9_holds "TollDelay" ∈ lw_tbl := List.mem_of_getElem? (i := 521) (by decide +kernel)
theorem kmX8_67 : Cond.methodLink RX8 67 yX8_worthOfAll ∈ lw_good := mem_good 522 (by decide +kernel) (by decide +kernel)
theorem kmX8_56 : Cond.methodLink RX8 56 yX8_tryWith ∈ lw_good := mem_good 526 (by decide +kernel) (by decide +kernel)
theorem knX8_30 : Cond.methodLinkNest RX8 30 yX9_setOfFirst "TollDelay" ∈ lw_tbl := List.mem_of_getElem? (i := 530) (by decide +kernel)
theorem knX8_34 : Cond.methodLinkNest RX8 34 yX9_leastOf "TollDelay" ∈ lw_tbl := List.mem_of_getElem? (i := 531) (by decide +kernel)
theorem kmX9_217 : Cond.methodLink RX9 217 yX9_holds ∈ lw_good := mem_good 534 (by decide +kernel) (by decide +kernel)
theorem kmX8_37 : Cond.methodLink RX8 37 yX1_stayOf ∈ lw_good := mem_good 535 (by decide +kernel) (by decide +kernel)
theorem kmX1_54 : Cond.methodLink RX1 54 yX1_hasTraveller ∈ lw_good := mem_good 539 (by decide +kernel) (by decide +kernel)
theorem kmX1_58 : Cond.methodLink RX1 58 yX1_hasMatter ∈ lw_good := mem_good 543 (by decide +kernel) (by decide +kernel)
theorem kmX1_61 : Cond.methodLink RX1 61 Lib.Math.max.name ∈ lw_good := mem_good 547 (by decide +kernel) (by decide +kernel)
theorem kmX1_67 : Cond.methodLink RX1 67 yJ6_bitCount_0f7a4 ∈ lw_good := mem_good 548 (by decide +kernel) (by decide +kernel)
theorem kcJ6_265 : Cond.constant RJ6 265 (1431655765) ∈ lw_good := mem_good 551 (by decide +kernel) (by decide +kernel)
theorem kcJ6_266 : Cond.constant RJ6 266 (858993459) ∈ lw_good := mem_good 552 (by decide +kernel) (by decide +kernel)
theorem kcJ6_267 : Cond.constant RJ6 267 (252645135) ∈ lw_good := mem_good 553 (by decide +kernel) (by decide +kernel)
theorem kmX8_44 : Cond.methodLink RX8 44 yX8_weigh ∈ lw_good := mem_good 554 (by decide +kernel) (by decide +kernel)
theorem kmX8_48 : Cond.methodLink RX8 48 yJ6_bitCount_0f7a4 ∈ lw_good := mem_good 558 (by decide +kernel) (by decide +kernel)
theorem kmX8_60 : Cond.methodLink RX8 60 yX1_payFor ∈ lw_good := mem_good 559 (by decide +kernel) (by decide +kernel)
theorem kmX9_145 : Cond.methodLink RX9 145 yX9_toldOfEvening ∈ lw_good := mem_good 563 (by decide +kernel) (by decide +kernel)
theorem kmL_31 : Cond.methodLink RL 31 yX9_matter ∈ lw_good := mem_good 567 (by decide +kernel) (by decide +kernel)
theorem kmX9_176 : Cond.methodLink RX9 176 yX1_hasMatter ∈ lw_good := mem_good 571 (by decide +kernel) (by decide +kernel)
theorem kcX9_179 : Cond.constant RX9 179 (-1000000001) ∈ lw_good := mem_good 572 (by decide +kernel) (by decide +kernel)
theorem kmX9_187 : Cond.methodLink RX9 187 yX1_leadsFrom ∈ lw_good := mem_good 573 (by decide +kernel) (by decide +kernel)
theorem kmX1_72 : Cond.methodLink RX1 72 yX1_oneStepFrom ∈ lw_good := mem_good 577 (by decide +kernel) (by decide +kernel)
theorem kmX9_190 : Cond.methodLink RX9 190 yX1_stepsRound ∈ lw_good := mem_good 581 (by decide +kernel) (by decide +kernel)
theorem kmL_36 : Cond.methodLink RL 36 yX9_traveller ∈ lw_good := mem_good 585 (by decide +kernel) (by decide +kernel)
theorem kmX9_193 : Cond.methodLink RX9 193 yX1_hasTraveller ∈ lw_good := mem_good 589 (by decide +kernel) (by decide +kernel)
theorem kmX9_211 : Cond.methodLink RX9 211 yX3_patienceOf ∈ lw_good := mem_good 590 (by decide +kernel) (by decide +kernel)
theorem kmX3_72 : Cond.methodLink RX3 72 yX1_hasTraveller ∈ lw_good := mem_good 594 (by decide +kernel) (by decide +kernel)
theorem knX3_68 : Cond.methodLinkNest RX3 68 yX9_holds "TollDelay" ∈ lw_tbl := List.mem_of_getElem? (i := 595) (by decide +kernel)
theorem kmX3_117 : Cond.methodLink RX3 117 yX1_mostWaiting ∈ lw_good := mem_good 596 (by decide +kernel) (by decide +kernel)
theorem kmX9_214 : Cond.methodLink RX9 214 yX1_favouriteOf ∈ lw_good := mem_good 600 (by decide +kernel) (by decide +kernel)
theorem kmX1_75 : Cond.methodLink RX1 75 yX1_stayOf ∈ lw_good := mem_good 604 (by decide +kernel) (by decide +kernel)
theorem kmL_40 : Cond.methodLink RL 40 yX9_seat ∈ lw_good := mem_good 605 (by decide +kernel) (by decide +kernel)
theorem kcX9_221 : Cond.constant RX9 221 (-1000000003) ∈ lw_good := mem_good 609 (by decide +kernel) (by decide +kernel)
theorem kmX9_222 : Cond.methodLink RX9 222 yX6_remember ∈ lw_good := mem_good 610 (by decide +kernel) (by decide +kernel)
theorem kmX6_25 : Cond.methodLink RX6 25 yX3_copyFrom ∈ lw_good := mem_good 614 (by decide +kernel) (by decide +kernel)
theorem kmX6_29 : Cond.methodLink RX6 29 Lib.Math.min.name ∈ lw_good := mem_good 618 (by decide +kernel) (by decide +kernel)
theorem kmX9_226 : Cond.methodLink RX9 226 yX3_takeSeat ∈ lw_good := mem_good 621 (by decide +kernel) (by decide +kernel)
theorem kmL_44 : Cond.methodLink RL 44 yX9_tell ∈ lw_good := mem_good 625 (by decide +kernel) (by decide +kernel)
theorem kmX9_229 : Cond.methodLink RX9 229 yX3_canHear ∈ lw_good := mem_good 629 (by decide +kernel) (by decide +kernel)
theorem kmX9_232 : Cond.methodLink RX9 232 yX3_hear ∈ lw_good := mem_good 633 (by decide +kernel) (by decide +kernel)
theorem kmX3_76 : Cond.methodLink RX3 76 yX3_follows ∈ lw_good := mem_good 637 (by decide +kernel) (by decide +kernel)
theorem kmX3_92 : Cond.methodLink RX3 92 yX1_hasMatter ∈ lw_good := mem_good 641 (by decide +kernel) (by decide +kernel)
theorem kmX3_80 : Cond.methodLink RX3 80 yX3_leaveSeat ∈ lw_good := mem_good 642 (by decide +kernel) (by decide +kernel)
theorem kmX3_98 : Cond.methodLink RX3 98 yX1_payFor ∈ lw_good := mem_good 646 (by decide +kernel) (by decide +kernel)
theorem kcX3_101 : Cond.constant RX3 101 (999999) ∈ lw_good := mem_good 647 (by decide +kernel) (by decide +kernel)
theorem kmX3_102 : Cond.methodLink RX3 102 Lib.Math.min.name ∈ lw_good := mem_good 648 (by decide +kernel) (by decide +kernel)
theorem kmX3_107 : Cond.methodLink RX3 107 yX1_isProfessor ∈ lw_good := mem_good 649 (by decide +kernel) (by decide +kernel)
theorem kmX3_113 : Cond.methodLink RX3 113 yX3_takeUp ∈ lw_good := mem_good 653 (by decide +kernel) (by decide +kernel)
theorem kmX3_84 : Cond.methodLink RX3 84 yX1_stayOf ∈ lw_good := mem_good 657 (by decide +kernel) (by decide +kernel)
theorem kmX3_88 : Cond.methodLink RX3 88 yX3_passMinutes ∈ lw_good := mem_good 658 (by decide +kernel) (by decide +kernel)
theorem kmL_48 : Cond.methodLink RL 48 yX9_rise ∈ lw_good := mem_good 662 (by decide +kernel) (by decide +kernel)
theorem kmX9_235 : Cond.methodLink RX9 235 yX3_leaveSeat ∈ lw_good := mem_good 666 (by decide +kernel) (by decide +kernel)
theorem kmL_52 : Cond.methodLink RL 52 yX9_learn ∈ lw_good := mem_good 667 (by decide +kernel) (by decide +kernel)
theorem kmX9_238 : Cond.methodLink RX9 238 yX3_passMinutes ∈ lw_good := mem_good 671 (by decide +kernel) (by decide +kernel)
theorem kmX9_242 : Cond.methodLink RX9 242 yJ6_bitCount_0f7a4 ∈ lw_good := mem_good 672 (by decide +kernel) (by decide +kernel)
theorem kmL_56 : Cond.methodLink RL 56 yX9_minute ∈ lw_good := mem_good 673 (by decide +kernel) (by decide +kernel)
theorem kmX9_247 : Cond.methodLink RX9 247 yX1_isThere ∈ lw_good := mem_good 677 (by decide +kernel) (by decide +kernel)
theorem kcX9_251 : Cond.constant RX9 251 (900000) ∈ lw_good := mem_good 678 (by decide +kernel) (by decide +kernel)
theorem kmL_60 : Cond.methodLink RL 60 yX9_anew ∈ lw_good := mem_good 679 (by decide +kernel) (by decide +kernel)
theorem kmX9_252 : Cond.methodLink RX9 252 yX3_gather ∈ lw_good := mem_good 683 (by decide +kernel) (by decide +kernel)
theorem kmL_64 : Cond.methodLink RL 64 yX9_drift ∈ lw_good := mem_good 684 (by decide +kernel) (by decide +kernel)
theorem kmX9_255 : Cond.methodLink RX9 255 yX9_driftOnce ∈ lw_good := mem_good 688 (by decide +kernel) (by decide +kernel)
theorem kmX9_258 : Cond.methodLink RX9 258 yX9_drawSeat ∈ lw_good := mem_good 692 (by decide +kernel) (by decide +kernel)
theorem kmX9_264 : Cond.methodLink RX9 264 yX9_drawOf ∈ lw_good := mem_good 696 (by decide +kernel) (by decide +kernel)
theorem kcX9_267 : Cond.constantLong RX9 267 (1103515245) ∈ lw_good := mem_good 700 (by decide +kernel) (by decide +kernel)
theorem kcX9_269 : Cond.constantLong RX9 269 (12345) ∈ lw_good := mem_good 701 (by decide +kernel) (by decide +kernel)
theorem kcX9_271 : Cond.constantLong RX9 271 (2147483648) ∈ lw_good := mem_good 702 (by decide +kernel) (by decide +kernel)
theorem kcX9_273 : Cond.constant RX9 273 (65536) ∈ lw_good := mem_good 703 (by decide +kernel) (by decide +kernel)
theorem kmX9_261 : Cond.methodLink RX9 261 yX9_drawTelling ∈ lw_good := mem_good 704 (by decide +kernel) (by decide +kernel)
theorem kmL_68 : Cond.methodLink RL 68 yX9_undo ∈ lw_good := mem_good 708 (by decide +kernel) (by decide +kernel)
theorem kmX9_274 : Cond.methodLink RX9 274 yX6_takeBack ∈ lw_good := mem_good 712 (by decide +kernel) (by decide +kernel)
theorem kmL_72 : Cond.methodLink RL 72 yX9_stay ∈ lw_good := mem_good 716 (by decide +kernel) (by decide +kernel)
theorem kmX9_278 : Cond.methodLink RX9 278 yX1_stayOf ∈ lw_good := mem_good 720 (by decide +kernel) (by decide +kernel)
theorem kmL_76 : Cond.methodLink RL 76 yX9_talk ∈ lw_good := mem_good 721 (by decide +kernel) (by decide +kernel)
theorem kmX9_282 : Cond.methodLink RX9 282 yX8_tryWith ∈ lw_good := mem_good 725 (by decide +kernel) (by decide +kernel)
theorem kmX9_293 : Cond.methodLink RX9 293 yX1_payFor ∈ lw_good := mem_good 726 (by decide +kernel) (by decide +kernel)
theorem kmL_80 : Cond.methodLink RL 80 yX9_queue ∈ lw_good := mem_good 727 (by decide +kernel) (by decide +kernel)
theorem kmX9_296 : Cond.methodLink RX9 296 yX5_fill ∈ lw_good := mem_good 731 (by decide +kernel) (by decide +kernel)
theorem knX5_44 : Cond.methodLinkNest RX5 44 yX9_holds "TollDelay" ∈ lw_tbl := List.mem_of_getElem? (i := 735) (by decide +kernel)
theorem kmX5_51 : Cond.methodLink RX5 51 yX8_tryWith ∈ lw_good := mem_good 736 (by decide +kernel) (by decide +kernel)
theorem kmX5_59 : Cond.methodLink RX5 59 yX1_payFor ∈ lw_good := mem_good 737 (by decide +kernel) (by decide +kernel)
theorem kmX5_63 : Cond.methodLink RX5 63 yX3_patienceOf ∈ lw_good := mem_good 738 (by decide +kernel) (by decide +kernel)
theorem kmX9_300 : Cond.methodLink RX9 300 yX5_tryOrders ∈ lw_good := mem_good 739 (by decide +kernel) (by decide +kernel)
theorem kmX5_67 : Cond.methodLink RX5 67 yX5_payOfOrder ∈ lw_good := mem_good 743 (by decide +kernel) (by decide +kernel)
theorem kmX5_71 : Cond.methodLink RX5 71 yX5_figuresOfOrder ∈ lw_good := mem_good 747 (by decide +kernel) (by decide +kernel)
theorem kmX5_74 : Cond.methodLink RX5 74 yX5_nextOrder ∈ lw_good := mem_good 751 (by decide +kernel) (by decide +kernel)
theorem kmX5_78 : Cond.methodLink RX5 78 yX5_swap ∈ lw_good := mem_good 755 (by decide +kernel) (by decide +kernel)
theorem kmL_84 : Cond.methodLink RL 84 yX9_dry ∈ lw_good := mem_good 759 (by decide +kernel) (by decide +kernel)
theorem kcX9_309 : Cond.constantLong RX9 309 (1000000000) ∈ lw_good := mem_good 763 (by decide +kernel) (by decide +kernel)
theorem kcX9_311 : Cond.constantLong RX9 311 (100) ∈ lw_good := mem_good 764 (by decide +kernel) (by decide +kernel)
theorem kmL_88 : Cond.methodLink RL 88 yX9_stayed ∈ lw_good := mem_good 765 (by decide +kernel) (by decide +kernel)
theorem kmX9_313 : Cond.methodLink RX9 313 yX2_add ∈ lw_good := mem_good 769 (by decide +kernel) (by decide +kernel)
theorem kmL_92 : Cond.methodLink RL 92 yX9_couldBe ∈ lw_good := mem_good 773 (by decide +kernel) (by decide +kernel)
theorem kmX9_315 : Cond.methodLink RX9 315 yX2_fitting ∈ lw_good := mem_good 777 (by decide +kernel) (by decide +kernel)
theorem kmX2_33 : Cond.methodLink RX2 33 yX2_fits ∈ lw_good := mem_good 781 (by decide +kernel) (by decide +kernel)
theorem kmX2_37 : Cond.methodLink RX2 37 yX1_stayOf ∈ lw_good := mem_good 785 (by decide +kernel) (by decide +kernel)
theorem kmL_96 : Cond.methodLink RL 96 yX9_ask ∈ lw_good := mem_good 786 (by decide +kernel) (by decide +kernel)
theorem kmX9_318 : Cond.methodLink RX9 318 yX0_bestOf ∈ lw_good := mem_good 790 (by decide +kernel) (by decide +kernel)
theorem kmX0_9 : Cond.methodLink RX0 9 yJ6_bitCount_0f7a4 ∈ lw_good := mem_good 793 (by decide +kernel) (by decide +kernel)
theorem kmX0_21 : Cond.methodLink RX0 21 yX0_greatestPart ∈ lw_good := mem_good 794 (by decide +kernel) (by decide +kernel)
theorem knX0_30 : Cond.methodLinkNest RX0 30 yX9_holds "TollDelay" ∈ lw_tbl := List.mem_of_getElem? (i := 797) (by decide +kernel)
theorem kmX0_34 : Cond.methodLink RX0 34 yX1_stayOf ∈ lw_good := mem_good 798 (by decide +kernel) (by decide +kernel)
theorem kmX0_38 : Cond.methodLink RX0 38 yX0_alike ∈ lw_good := mem_good 799 (by decide +kernel) (by decide +kernel)
theorem kmX0_42 : Cond.methodLink RX0 42 Lib.Math.max.name ∈ lw_good := mem_good 802 (by decide +kernel) (by decide +kernel)
theorem kmL_100 : Cond.methodLink RL 100 yX9_write ∈ lw_good := mem_good 803 (by decide +kernel) (by decide +kernel)
theorem kmL_104 : Cond.methodLink RL 104 yX9_judge ∈ lw_good := mem_good 807 (by decide +kernel) (by decide +kernel)
theorem kmX9_323 : Cond.methodLink RX9 323 yX2_firstWrong ∈ lw_good := mem_good 811 (by decide +kernel) (by decide +kernel)
theorem kmL_108 : Cond.methodLink RL 108 yX9_tear ∈ lw_good := mem_good 815 (by decide +kernel) (by decide +kernel)
theorem kmL_112 : Cond.methodLink RL 112 yX9_seed ∈ lw_good := mem_good 819 (by decide +kernel) (by decide +kernel)
theorem kmL_116 : Cond.methodLink RL 116 yX9_keep ∈ lw_good := mem_good 823 (by decide +kernel) (by decide +kernel)
theorem kmX9_328 : Cond.methodLink RX9 328 yX3_copyFrom ∈ lw_good := mem_good 827 (by decide +kernel) (by decide +kernel)
theorem kmL_120 : Cond.methodLink RL 120 yX9_goBack ∈ lw_good := mem_good 828 (by decide +kernel) (by decide +kernel)
theorem koL_10 : Cond.classLink RL 10 RX10 ∈ lw_good := mem_good 832 (by decide +kernel) (by decide +kernel)
theorem kiX10 : Cond.instantiable RX10 43 ∈ lw_good := mem_good 833 (by decide +kernel) (by decide +kernel)
theorem kmL_12 : Cond.methodLink RL 12 yX10_init ∈ lw_good := mem_good 834 (by decide +kernel) (by decide +kernel)
theorem kmX10_1 : Cond.methodLink RX10 1 Lib.objectInit ∈ lw_good := mem_good 837 (by decide +kernel) (by decide +kernel)
theorem kfX10_87 : Cond.fieldLink RX10 87 "TollDelayModel" "letterMany" "I" ∈ lw_good := mem_good 838 (by decide +kernel) (by decide +kernel)
theorem kfX10_7 : Cond.fieldLink RX10 7 "TollDelayModel" "text" "[I" ∈ lw_good := mem_good 839 (by decide +kernel) (by decide +kernel)
theorem kfX10_91 : Cond.fieldLink RX10 91 "TollDelayModel" "readAt" "I" ∈ lw_good := mem_good 840 (by decide +kernel) (by decide +kernel)
theorem kfX10_109 : Cond.fieldLink RX10 109 "TollDelayModel" "numberAt" "I" ∈ lw_good := mem_good 841 (by decide +kernel) (by decide +kernel)
theorem kfX10_98 : Cond.fieldLink RX10 98 "TollDelayModel" "readFault" "I" ∈ lw_good := mem_good 842 (by decide +kernel) (by decide +kernel)
theorem kfX10_13 : Cond.fieldLink RX10 13 "TollDelayModel" "faultAt" "I" ∈ lw_good := mem_good 843 (by decide +kernel) (by decide +kernel)
theorem kfX10_115 : Cond.fieldLink RX10 115 "TollDelayModel" "readQuarter" "I" ∈ lw_good := mem_good 844 (by decide +kernel) (by decide +kernel)
theorem kfX10_118 : Cond.fieldLink RX10 118 "TollDelayModel" "readPence" "I" ∈ lw_good := mem_good 845 (by decide +kernel) (by decide +kernel)
theorem kfX10_125 : Cond.fieldLink RX10 125 "TollDelayModel" "readMatters" "I" ∈ lw_good := mem_good 846 (by decide +kernel) (by decide +kernel)
theorem kfX10_128 : Cond.fieldLink RX10 128 "TollDelayModel" "readTravellers" "I" ∈ lw_good := mem_good 847 (by decide +kernel) (by decide +kernel)
theorem kfX10_17 : Cond.fieldLink RX10 17 "TollDelayModel" "readLong" "[I" ∈ lw_good := mem_good 848 (by decide +kernel) (by decide +kernel)
theorem kfX10_20 : Cond.fieldLink RX10 20 "TollDelayModel" "readLeads" "[I" ∈ lw_good := mem_good 849 (by decide +kernel) (by decide +kernel)
theorem kfX10_23 : Cond.fieldLink RX10 23 "TollDelayModel" "readKind" "[I" ∈ lw_good := mem_good 850 (by decide +kernel) (by decide +kernel)
theorem kfX10_26 : Cond.fieldLink RX10 26 "TollDelayModel" "readHurry" "[I" ∈ lw_good := mem_good 851 (by decide +kernel) (by decide +kernel)
theorem kfX10_29 : Cond.fieldLink RX10 29 "TollDelayModel" "readCannot" "[I" ∈ lw_good := mem_good 852 (by decide +kernel) (by decide +kernel)
theorem kfX10_147 : Cond.fieldLink RX10 147 "TollDelayModel" "quarter" "I" ∈ lw_good := mem_good 853 (by decide +kernel) (by decide +kernel)
theorem kfX10_150 : Cond.fieldLink RX10 150 "TollDelayModel" "pence" "I" ∈ lw_good := mem_good 854 (by decide +kernel) (by decide +kernel)
theorem kfX10_153 : Cond.fieldLink RX10 153 "TollDelayModel" "m" "I" ∈ lw_good := mem_good 855 (by decide +kernel) (by decide +kernel)
theorem kfX10_156 : Cond.fieldLink RX10 156 "TollDelayModel" "n" "I" ∈ lw_good := mem_good 856 (by decide +kernel) (by decide +kernel)
theorem kfX10_32 : Cond.fieldLink RX10 32 "TollDelayModel" "longs" "[I" ∈ lw_good := mem_good 857 (by decide +kernel) (by decide +kernel)
theorem kfX10_35 : Cond.fieldLink RX10 35 "TollDelayModel" "leads" "[I" ∈ lw_good := mem_good 858 (by decide +kernel) (by decide +kernel)
theorem kfX10_38 : Cond.fieldLink RX10 38 "TollDelayModel" "kinds" "[I" ∈ lw_good := mem_good 859 (by decide +kernel) (by decide +kernel)
theorem kfX10_41 : Cond.fieldLink RX10 41 "TollDelayModel" "hurries" "[I" ∈ lw_good := mem_good 860 (by decide +kernel) (by decide +kernel)
theorem kfX10_44 : Cond.fieldLink RX10 44 "TollDelayModel" "cannots" "[I" ∈ lw_good := mem_good 861 (by decide +kernel) (by decide +kernel)
theorem kfX10_47 : Cond.fieldLink RX10 47 "TollDelayModel" "now" "[I" ∈ lw_good := mem_good 862 (by decide +kernel) (by decide +kernel)
theorem kfX10_159 : Cond.fieldLink RX10 159 "TollDelayModel" "undoMany" "I" ∈ lw_good := mem_good 863 (by decide +kernel) (by decide +kernel)
theorem kfX10_212 : Cond.fieldLink RX10 212 "TollDelayModel" "undoAt" "I" ∈ lw_good := mem_good 864 (by decide +kernel) (by decide +kernel)
theorem kfX10_50 : Cond.fieldLink RX10 50 "TollDelayModel" "undos" "[I" ∈ lw_good := mem_good 865 (by decide +kernel) (by decide +kernel)
theorem kfX10_243 : Cond.fieldLink RX10 243 "TollDelayModel" "seeded" "J" ∈ lw_good := mem_good 866 (by decide +kernel) (by decide +kernel)
theorem kfX10_53 : Cond.fieldLink RX10 53 "TollDelayModel" "begun" "[I" ∈ lw_good := mem_good 867 (by decide +kernel) (by decide +kernel)
theorem kfX10_264 : Cond.fieldLink RX10 264 "TollDelayModel" "talkLong" "I" ∈ lw_good := mem_good 868 (by decide +kernel) (by decide +kernel)
theorem kfX10_267 : Cond.fieldLink RX10 267 "TollDelayModel" "talkFirst" "I" ∈ lw_good := mem_good 869 (by decide +kernel) (by decide +kernel)
theorem kfX10_270 : Cond.fieldLink RX10 270 "TollDelayModel" "talkMany" "I" ∈ lw_good := mem_good 870 (by decide +kernel) (by decide +kernel)
theorem kfX10_56 : Cond.fieldLink RX10 56 "TollDelayModel" "lasts" "[I" ∈ lw_good := mem_good 871 (by decide +kernel) (by decide +kernel)
theorem kfX10_162 : Cond.fieldLink RX10 162 "TollDelayModel" "stayedMany" "I" ∈ lw_good := mem_good 872 (by decide +kernel) (by decide +kernel)
theorem kfX10_59 : Cond.fieldLink RX10 59 "TollDelayModel" "stayedOne" "[I" ∈ lw_good := mem_good 873 (by decide +kernel) (by decide +kernel)
theorem kfX10_62 : Cond.fieldLink RX10 62 "TollDelayModel" "stayedLong" "[I" ∈ lw_good := mem_good 874 (by decide +kernel) (by decide +kernel)
theorem kfX10_165 : Cond.fieldLink RX10 165 "TollDelayModel" "bookMany" "I" ∈ lw_good := mem_good 875 (by decide +kernel) (by decide +kernel)
theorem kfX10_65 : Cond.fieldLink RX10 65 "TollDelayModel" "bookOne" "[I" ∈ lw_good := mem_good 876 (by decide +kernel) (by decide +kernel)
theorem kfX10_68 : Cond.fieldLink RX10 68 "TollDelayModel" "bookSat" "[I" ∈ lw_good := mem_good 877 (by decide +kernel) (by decide +kernel)
theorem kfX10_71 : Cond.fieldLink RX10 71 "TollDelayModel" "isKept" "[Z" ∈ lw_good := mem_good 878 (by decide +kernel) (by decide +kernel)
theorem kfX10_75 : Cond.fieldLink RX10 75 "TollDelayModel" "kept" "[I" ∈ lw_good := mem_good 879 (by decide +kernel) (by decide +kernel)
theorem kfX10_78 : Cond.fieldLink RX10 78 "TollDelayModel" "keptSeed" "[J" ∈ lw_good := mem_good 880 (by decide +kernel) (by decide +kernel)
theorem ka_boolean : Cond.arrayClass .boolean ∈ lw_good := mem_good 968 (by decide +kernel) (by decide +kernel)
theorem ka_long : Cond.arrayClass .long ∈ lw_good := mem_good 969 (by decide +kernel) (by decide +kernel)
theorem kmL_17 : Cond.methodLink RL 17 yX10_feed ∈ lw_good := mem_good 970 (by decide +kernel) (by decide +kernel)
theorem kmX10_82 : Cond.methodLink RX10 82 yX10_in ∈ lw_good := mem_good 974 (by decide +kernel) (by decide +kernel)
theorem kcX10_86 : Cond.constant RX10 86 (-1000000002) ∈ lw_good := mem_good 977 (by decide +kernel) (by decide +kernel)
theorem kcX10_90 : Cond.constant RX10 90 (-1000000004) ∈ lw_good := mem_good 978 (by decide +kernel) (by decide +kernel)
theorem kmL_22 : Cond.methodLink RL 22 yX10_bridge ∈ lw_good := mem_good 979 (by decide +kernel) (by decide +kernel)
theorem kmX10_144 : Cond.methodLink RX10 144 yX10_readsBridge ∈ lw_good := mem_good 983 (by decide +kernel) (by decide +kernel)
theorem kmX10_101 : Cond.methodLink RX10 101 yX10_nextLetter ∈ lw_good := mem_good 987 (by decide +kernel) (by decide +kernel)
theorem kmX10_94 : Cond.methodLink RX10 94 yX10_letterAt ∈ lw_good := mem_good 991 (by decide +kernel) (by decide +kernel)
theorem kmX10_141 : Cond.methodLink RX10 141 yX10_readsClause ∈ lw_good := mem_good 995 (by decide +kernel) (by decide +kernel)
theorem kmX10_131 : Cond.methodLink RX10 131 yX10_readsHead ∈ lw_good := mem_good 999 (by decide +kernel) (by decide +kernel)
theorem kmX10_112 : Cond.methodLink RX10 112 yX10_readsNumber ∈ lw_good := mem_good 1003 (by decide +kernel) (by decide +kernel)
theorem kmX10_105 : Cond.methodLink RX10 105 yX10_fails ∈ lw_good := mem_good 1007 (by decide +kernel) (by decide +kernel)
theorem kmX10_121 : Cond.methodLink RX10 121 yX10_readsSign ∈ lw_good := mem_good 1011 (by decide +kernel) (by decide +kernel)
theorem kmX10_135 : Cond.methodLink RX10 135 yX10_readsMatter ∈ lw_good := mem_good 1015 (by decide +kernel) (by decide +kernel)
theorem kmX10_138 : Cond.methodLink RX10 138 yX10_readsTraveller ∈ lw_good := mem_good 1019 (by decide +kernel) (by decide +kernel)
theorem kmL_26 : Cond.methodLink RL 26 yX10_fault ∈ lw_good := mem_good 1023 (by decide +kernel) (by decide +kernel)
theorem kmL_30 : Cond.methodLink RL 30 yX10_told ∈ lw_good := mem_good 1027 (by decide +kernel) (by decide +kernel)
theorem kmX10_175 : Cond.methodLink RX10 175 yX10_are ∈ lw_good := mem_good 1031 (by decide +kernel) (by decide +kernel)
theorem kmX10_178 : Cond.methodLink RX10 178 yX10_nobodys ∈ lw_good := mem_good 1035 (by decide +kernel) (by decide +kernel)
theorem kmX10_181 : Cond.methodLink RX10 181 yX10_longestSat ∈ lw_good := mem_good 1039 (by decide +kernel) (by decide +kernel)
theorem kmX10_184 : Cond.methodLink RX10 184 yX10_bestToLearn ∈ lw_good := mem_good 1043 (by decide +kernel) (by decide +kernel)
theorem kmX10_168 : Cond.methodLink RX10 168 yX10_has ∈ lw_good := mem_good 1047 (by decide +kernel) (by decide +kernel)
theorem kmX10_277 : Cond.methodLink RX10 277 yX10_worthOfAll ∈ lw_good := mem_good 1050 (by decide +kernel) (by decide +kernel)
theorem kmX10_273 : Cond.methodLink RX10 273 yX10_layTalk ∈ lw_good := mem_good 1054 (by decide +kernel) (by decide +kernel)
theorem kmX10_261 : Cond.methodLink RX10 261 yX10_layTalks ∈ lw_good := mem_good 1058 (by decide +kernel) (by decide +kernel)
theorem kmX10_200 : Cond.methodLink RX10 200 yX10_stayOf ∈ lw_good := mem_good 1062 (by decide +kernel) (by decide +kernel)
theorem kmX10_172 : Cond.methodLink RX10 172 yX10_bits ∈ lw_good := mem_good 1066 (by decide +kernel) (by decide +kernel)
theorem kmX10_223 : Cond.methodLink RX10 223 yX10_payFor ∈ lw_good := mem_good 1069 (by decide +kernel) (by decide +kernel)
theorem kmL_35 : Cond.methodLink RL 35 yX10_matter ∈ lw_good := mem_good 1073 (by decide +kernel) (by decide +kernel)
theorem kmX10_190 : Cond.methodLink RX10 190 yX10_isMatter ∈ lw_good := mem_good 1077 (by decide +kernel) (by decide +kernel)
theorem kcX10_193 : Cond.constant RX10 193 (-1000000001) ∈ lw_good := mem_good 1081 (by decide +kernel) (by decide +kernel)
theorem kmX10_194 : Cond.methodLink RX10 194 yX10_leadsFrom ∈ lw_good := mem_good 1082 (by decide +kernel) (by decide +kernel)
theorem kmX10_187 : Cond.methodLink RX10 187 yX10_onward ∈ lw_good := mem_good 1086 (by decide +kernel) (by decide +kernel)
theorem kmX10_197 : Cond.methodLink RX10 197 yX10_roundOf ∈ lw_good := mem_good 1090 (by decide +kernel) (by decide +kernel)
theorem kmL_39 : Cond.methodLink RL 39 yX10_traveller ∈ lw_good := mem_good 1094 (by decide +kernel) (by decide +kernel)
theorem kmX10_203 : Cond.methodLink RX10 203 yX10_isTraveller ∈ lw_good := mem_good 1098 (by decide +kernel) (by decide +kernel)
theorem kmX10_206 : Cond.methodLink RX10 206 yX10_limit ∈ lw_good := mem_good 1102 (by decide +kernel) (by decide +kernel)
theorem kmX10_209 : Cond.methodLink RX10 209 yX10_favourite ∈ lw_good := mem_good 1106 (by decide +kernel) (by decide +kernel)
theorem kmL_43 : Cond.methodLink RL 43 yX10_seat ∈ lw_good := mem_good 1110 (by decide +kernel) (by decide +kernel)
theorem kcX10_215 : Cond.constant RX10 215 (-1000000003) ∈ lw_good := mem_good 1114 (by decide +kernel) (by decide +kernel)
theorem kmX10_216 : Cond.methodLink RX10 216 yX10_remember ∈ lw_good := mem_good 1115 (by decide +kernel) (by decide +kernel)
theorem kmX10_219 : Cond.methodLink RX10 219 yX10_seats ∈ lw_good := mem_good 1119 (by decide +kernel) (by decide +kernel)
theorem kmL_47 : Cond.methodLink RL 47 yX10_tell ∈ lw_good := mem_good 1123 (by decide +kernel) (by decide +kernel)
theorem kmX10_233 : Cond.methodLink RX10 233 yX10_isTellable ∈ lw_good := mem_good 1127 (by decide +kernel) (by decide +kernel)
theorem kmX10_236 : Cond.methodLink RX10 236 yX10_tells ∈ lw_good := mem_good 1131 (by decide +kernel) (by decide +kernel)
theorem kmX10_227 : Cond.methodLink RX10 227 yX10_rises ∈ lw_good := mem_good 1135 (by decide +kernel) (by decide +kernel)
theorem kcX10_226 : Cond.constant RX10 226 (999999) ∈ lw_good := mem_good 1139 (by decide +kernel) (by decide +kernel)
theorem kmX10_230 : Cond.methodLink RX10 230 yX10_passes ∈ lw_good := mem_good 1140 (by decide +kernel) (by decide +kernel)
theorem kmL_51 : Cond.methodLink RL 51 yX10_rise ∈ lw_good := mem_good 1144 (by decide +kernel) (by decide +kernel)
theorem kmL_55 : Cond.methodLink RL 55 yX10_learn ∈ lw_good := mem_good 1148 (by decide +kernel) (by decide +kernel)
theorem kmL_59 : Cond.methodLink RL 59 yX10_minute ∈ lw_good := mem_good 1152 (by decide +kernel) (by decide +kernel)
theorem kmX10_239 : Cond.methodLink RX10 239 yX10_isBridge ∈ lw_good := mem_good 1156 (by decide +kernel) (by decide +kernel)
theorem kcX10_242 : Cond.constant RX10 242 (900000) ∈ lw_good := mem_good 1160 (by decide +kernel) (by decide +kernel)
theorem kmL_63 : Cond.methodLink RL 63 yX10_anew ∈ lw_good := mem_good 1161 (by decide +kernel) (by decide +kernel)
theorem kmL_67 : Cond.methodLink RL 67 yX10_drift ∈ lw_good := mem_good 1165 (by decide +kernel) (by decide +kernel)
theorem kmX10_258 : Cond.methodLink RX10 258 yX10_draws ∈ lw_good := mem_good 1169 (by decide +kernel) (by decide +kernel)
theorem kmX10_255 : Cond.methodLink RX10 255 yX10_draw ∈ lw_good := mem_good 1173 (by decide +kernel) (by decide +kernel)
theorem kcX10_247 : Cond.constantLong RX10 247 (1103515245) ∈ lw_good := mem_good 1177 (by decide +kernel) (by decide +kernel)
theorem kcX10_249 : Cond.constantLong RX10 249 (12345) ∈ lw_good := mem_good 1178 (by decide +kernel) (by decide +kernel)
theorem kcX10_251 : Cond.constantLong RX10 251 (2147483648) ∈ lw_good := mem_good 1179 (by decide +kernel) (by decide +kernel)
theorem kcX10_253 : Cond.constantLong RX10 253 (65536) ∈ lw_good := mem_good 1180 (by decide +kernel) (by decide +kernel)
theorem kmL_71 : Cond.methodLink RL 71 yX10_undo ∈ lw_good := mem_good 1181 (by decide +kernel) (by decide +kernel)
theorem kmL_75 : Cond.methodLink RL 75 yX10_stay ∈ lw_good := mem_good 1185 (by decide +kernel) (by decide +kernel)
theorem kmL_79 : Cond.methodLink RL 79 yX10_talk ∈ lw_good := mem_good 1189 (by decide +kernel) (by decide +kernel)
theorem kmL_83 : Cond.methodLink RL 83 yX10_queue ∈ lw_good := mem_good 1193 (by decide +kernel) (by decide +kernel)
theorem kmX10_280 : Cond.methodLink RX10 280 yX10_paidBy ∈ lw_good := mem_good 1197 (by decide +kernel) (by decide +kernel)
theorem kmX10_283 : Cond.methodLink RX10 283 yX10_nextFigures ∈ lw_good := mem_good 1201 (by decide +kernel) (by decide +kernel)
theorem kmL_87 : Cond.methodLink RL 87 yX10_dry ∈ lw_good := mem_good 1204 (by decide +kernel) (by decide +kernel)
theorem kcX10_286 : Cond.constantLong RX10 286 (1000000000) ∈ lw_good := mem_good 1208 (by decide +kernel) (by decide +kernel)
theorem kcX10_288 : Cond.constantLong RX10 288 (100) ∈ lw_good := mem_good 1209 (by decide +kernel) (by decide +kernel)
theorem kmL_91 : Cond.methodLink RL 91 yX10_stayed ∈ lw_good := mem_good 1210 (by decide +kernel) (by decide +kernel)
theorem kmL_95 : Cond.methodLink RL 95 yX10_couldBe ∈ lw_good := mem_good 1214 (by decide +kernel) (by decide +kernel)
theorem kmL_99 : Cond.methodLink RL 99 yX10_ask ∈ lw_good := mem_good 1218 (by decide +kernel) (by decide +kernel)
theorem kmX10_290 : Cond.methodLink RX10 290 yX10_couldBe ∈ lw_good := mem_good 1222 (by decide +kernel) (by decide +kernel)
theorem kmX10_293 : Cond.methodLink RX10 293 yX10_alike ∈ lw_good := mem_good 1223 (by decide +kernel) (by decide +kernel)
theorem kmL_103 : Cond.methodLink RL 103 yX10_write ∈ lw_good := mem_good 1227 (by decide +kernel) (by decide +kernel)
theorem kmL_107 : Cond.methodLink RL 107 yX10_judge ∈ lw_good := mem_good 1231 (by decide +kernel) (by decide +kernel)
theorem kmL_111 : Cond.methodLink RL 111 yX10_tear ∈ lw_good := mem_good 1235 (by decide +kernel) (by decide +kernel)
theorem kmL_115 : Cond.methodLink RL 115 yX10_seed ∈ lw_good := mem_good 1239 (by decide +kernel) (by decide +kernel)
theorem kmL_119 : Cond.methodLink RL 119 yX10_keep ∈ lw_good := mem_good 1243 (by decide +kernel) (by decide +kernel)
theorem kmL_123 : Cond.methodLink RL 123 yX10_goBack ∈ lw_good := mem_good 1247 (by decide +kernel) (by decide +kernel)
theorem kObjI : Cond.instanceMethod Lib.objectInit ∈ lw_good := mem_good 84 (by decide +kernel) (by decide +kernel)
theorem kObjC : Cond.code Lib.objectInit ⟨#[0xb1]⟩ 1 none ∈ lw_good := mem_good 85 (by decide +kernel) (by decide +kernel)
theorem kMs_max : Cond.static Lib.Math.max.name ∈ lw_good := mem_good 251 (by decide +kernel) (by decide +kernel)
theorem kMc_max : Cond.code Lib.Math.max.name Lib.Math.max.code 2 (some .int) ∈ lw_good := mem_good 252 (by decide +kernel) (by decide +kernel)
theorem kMs_min : Cond.static Lib.Math.min.name ∈ lw_good := mem_good 619 (by decide +kernel) (by decide +kernel)
theorem kMc_min : Cond.code Lib.Math.min.name Lib.Math.min.code 2 (some .int) ∈ lw_good := mem_good 620 (by decide +kernel) (by decide +kernel)
theorem kcd_X9_init : Cond.code yX9_init cX9_init 2 none ∈ lw_good := mem_good 82 (by decide +kernel) (by decide +kernel)
theorem kin_X9_init : Cond.instanceMethod yX9_init ∈ lw_good := mem_good 81 (by decide +kernel) (by decide +kernel)
theorem cl_X9_init : ClI yX9_init cX9_init 2 0 := ⟨⟨kcd_X9_init, kzX9, by decide +kernel⟩, by decide +kernel, kin_X9_init⟩
theorem kcd_X7_init : Cond.code yX7_init cX7_init 1 none ∈ lw_good := mem_good 90 (by decide +kernel) (by decide +kernel)
theorem kin_X7_init : Cond.instanceMethod yX7_init ∈ lw_good := mem_good 89 (by decide +kernel) (by decide +kernel)
theorem cl_X7_init : ClI yX7_init cX7_init 1 0 := ⟨⟨kcd_X7_init, kzX7, by decide +kernel⟩, by decide +kernel, kin_X7_init⟩
theorem kcd_X3_init : Cond.code yX3_init cX3_init 1 none ∈ lw_good := mem_good 116 (by decide +kernel) (by decide +kernel)
theorem kin_X3_init : Cond.instanceMethod yX3_init ∈ lw_good := mem_good 115 (by decide +kernel) (by decide +kernel)
theorem cl_X3_init : ClI yX3_init cX3_init 1 0 := ⟨⟨kcd_X3_init, kzX3, by decide +kernel⟩, by decide +kernel, kin_X3_init⟩
theorem kcd_X6_init : Cond.code yX6_init cX6_init 2 none ∈ lw_good := mem_good 173 (by decide +kernel) (by decide +kernel)
theorem kin_X6_init : Cond.instanceMethod yX6_init ∈ lw_good := mem_good 172 (by decide +kernel) (by decide +kernel)
theorem cl_X6_init : ClI yX6_init cX6_init 2 0 := ⟨⟨kcd_X6_init, kzX6, by decide +kernel⟩, by decide +kernel, kin_X6_init⟩
theorem kcd_X8_init : Cond.code yX8_init cX8_init 1 none ∈ lw_good := mem_good 195 (by decide +kernel) (by decide +kernel)
theorem kin_X8_init : Cond.instanceMethod yX8_init ∈ lw_good := mem_good 194 (by decide +kernel) (by decide +kernel)
theorem cl_X8_init : ClI yX8_init cX8_init 1 0 := ⟨⟨kcd_X8_init, kzX8, by decide +kernel⟩, by decide +kernel, kin_X8_init⟩
theorem kcd_X5_init : Cond.code yX5_init cX5_init 1 none ∈ lw_good := mem_good 218 (by decide +kernel) (by decide +kernel)
theorem kin_X5_init : Cond.instanceMethod yX5_init ∈ lw_good := mem_good 217 (by decide +kernel) (by decide +kernel)
theorem cl_X5_init : ClI yX5_init cX5_init 1 0 := ⟨⟨kcd_X5_init, kzX5, by decide +kernel⟩, by decide +kernel, kin_X5_init⟩
theorem kcd_X2_init : Cond.code yX2_init cX2_init 2 none ∈ lw_good := mem_good 248 (by decide +kernel) (by decide +kernel)
theorem kin_X2_init : Cond.instanceMethod yX2_init ∈ lw_good := mem_good 247 (by decide +kernel) (by decide +kernel)
theorem cl_X2_init : ClI yX2_init cX2_init 2 1 := ⟨⟨kcd_X2_init, kzX2, by decide +kernel⟩, by decide +kernel, kin_X2_init⟩
theorem kcd_X1_init : Cond.code yX1_init cX1_init 1 none ∈ lw_good := mem_good 268 (by decide +kernel) (by decide +kernel)
theorem kin_X1_init : Cond.instanceMethod yX1_init ∈ lw_good := mem_good 267 (by decide +kernel) (by decide +kernel)
theorem cl_X1_init : ClI yX1_init cX1_init 1 0 := ⟨⟨kcd_X1_init, kzX1, by decide +kernel⟩, by decide +kernel, kin_X1_init⟩
theorem kcd_X4_init : Cond.code yX4_init cX4_init 1 none ∈ lw_good := mem_good 328 (by decide +kernel) (by decide +kernel)
theorem kin_X4_init : Cond.instanceMethod yX4_init ∈ lw_good := mem_good 327 (by decide +kernel) (by decide +kernel)
theorem cl_X4_init : ClI yX4_init cX4_init 1 0 := ⟨⟨kcd_X4_init, kzX4, by decide +kernel⟩, by decide +kernel, kin_X4_init⟩
theorem kcd_X9_feed : Cond.code yX9_feed cX9_feed 2 (some .int) ∈ lw_good := mem_good 385 (by decide +kernel) (by decide +kernel)
theorem kin_X9_feed : Cond.instanceMethod yX9_feed ∈ lw_good := mem_good 383 (by decide +kernel) (by decide +kernel)
theorem ksl_X9_feed : Cond.selects RX9 yX9_feed yX9_feed ∈ lw_good := mem_good 384 (by decide +kernel) (by decide +kernel)
theorem cl_X9_feed : ClV yX9_feed cX9_feed 2 (some .int) 1 := ⟨⟨kcd_X9_feed, kzX9, by decide +kernel⟩, kin_X9_feed, ksl_X9_feed⟩
theorem kcd_X7_add : Cond.code yX7_add cX7_add 2 (some .boolean) ∈ lw_good := mem_good 390 (by decide +kernel) (by decide +kernel)
theorem kin_X7_add : Cond.instanceMethod yX7_add ∈ lw_good := mem_good 388 (by decide +kernel) (by decide +kernel)
theorem ksl_X7_add : Cond.selects RX7 yX7_add yX7_add ∈ lw_good := mem_good 389 (by decide +kernel) (by decide +kernel)
theorem cl_X7_add : ClV yX7_add cX7_add 2 (some .boolean) 1 := ⟨⟨kcd_X7_add, kzX7, by decide +kernel⟩, kin_X7_add, ksl_X7_add⟩
theorem kcd_X9_bridge : Cond.code yX9_bridge cX9_bridge 2 (some .int) ∈ lw_good := mem_good 395 (by decide +kernel) (by decide +kernel)
theorem kin_X9_bridge : Cond.instanceMethod yX9_bridge ∈ lw_good := mem_good 393 (by decide +kernel) (by decide +kernel)
theorem ksl_X9_bridge : Cond.selects RX9 yX9_bridge yX9_bridge ∈ lw_good := mem_good 394 (by decide +kernel) (by decide +kernel)
theorem cl_X9_bridge : ClV yX9_bridge cX9_bridge 2 (some .int) 0 := ⟨⟨kcd_X9_bridge, kzX9, by decide +kernel⟩, kin_X9_bridge, ksl_X9_bridge⟩
theorem kcd_X7_readInto : Cond.code yX7_readInto cX7_readInto 3 none ∈ lw_good := mem_good 399 (by decide +kernel) (by decide +kernel)
theorem kin_X7_readInto : Cond.instanceMethod yX7_readInto ∈ lw_good := mem_good 397 (by decide +kernel) (by decide +kernel)
theorem ksl_X7_readInto : Cond.selects RX7 yX7_readInto yX7_readInto ∈ lw_good := mem_good 398 (by decide +kernel) (by decide +kernel)
theorem cl_X7_readInto : ClV yX7_readInto cX7_readInto 3 none 1 := ⟨⟨kcd_X7_readInto, kzX7, by decide +kernel⟩, kin_X7_readInto, ksl_X7_readInto⟩
theorem kcd_X1_clear : Cond.code yX1_clear cX1_clear 1 none ∈ lw_good := mem_good 403 (by decide +kernel) (by decide +kernel)
theorem kin_X1_clear : Cond.instanceMethod yX1_clear ∈ lw_good := mem_good 401 (by decide +kernel) (by decide +kernel)
theorem ksl_X1_clear : Cond.selects RX1 yX1_clear yX1_clear ∈ lw_good := mem_good 402 (by decide +kernel) (by decide +kernel)
theorem cl_X1_clear : ClV yX1_clear cX1_clear 1 none 0 := ⟨⟨kcd_X1_clear, kzX1, by decide +kernel⟩, kin_X1_clear, ksl_X1_clear⟩
theorem kcd_X7_skipBlanks : Cond.code yX7_skipBlanks cX7_skipBlanks 1 none ∈ lw_good := mem_good 407 (by decide +kernel) (by decide +kernel)
theorem kin_X7_skipBlanks : Cond.instanceMethod yX7_skipBlanks ∈ lw_good := mem_good 406 (by decide +kernel) (by decide +kernel)
theorem ksl_X7_skipBlanks : Cond.selects RX7 yX7_skipBlanks yX7_skipBlanks ∈ lw_good := mem_good 0 (by decide +kernel) (by decide +kernel)
theorem cl_X7_skipBlanks : ClV yX7_skipBlanks cX7_skipBlanks 1 none 0 := ⟨⟨kcd_X7_skipBlanks, kzX7, by decide +kernel⟩, kin_X7_skipBlanks, ksl_X7_skipBlanks⟩
theorem kcd_X7_nextLetter : Cond.code yX7_nextLetter cX7_nextLetter 1 (some .int) ∈ lw_good := mem_good 411 (by decide +kernel) (by decide +kernel)
theorem kin_X7_nextLetter : Cond.instanceMethod yX7_nextLetter ∈ lw_good := mem_good 410 (by decide +kernel) (by decide +kernel)
theorem ksl_X7_nextLetter : Cond.selects RX7 yX7_nextLetter yX7_nextLetter ∈ lw_good := mem_good 1 (by decide +kernel) (by decide +kernel)
theorem cl_X7_nextLetter : ClV yX7_nextLetter cX7_nextLetter 1 (some .int) 0 := ⟨⟨kcd_X7_nextLetter, kzX7, by decide +kernel⟩, kin_X7_nextLetter, ksl_X7_nextLetter⟩
theorem kcd_X7_readClause : Cond.code yX7_readClause cX7_readClause 4 none ∈ lw_good := mem_good 415 (by decide +kernel) (by decide +kernel)
theorem kin_X7_readClause : Cond.instanceMethod yX7_readClause ∈ lw_good := mem_good 414 (by decide +kernel) (by decide +kernel)
theorem ksl_X7_readClause : Cond.selects RX7 yX7_readClause yX7_readClause ∈ lw_good := mem_good 2 (by decide +kernel) (by decide +kernel)
theorem cl_X7_readClause : ClV yX7_readClause cX7_readClause 4 none 1 := ⟨⟨kcd_X7_readClause, kzX7, by decide +kernel⟩, kin_X7_readClause, ksl_X7_readClause⟩
theorem kcd_X7_faultOfWord : Cond.code yX7_faultOfWord cX7_faultOfWord 2 (some .int) ∈ lw_good := mem_good 418 (by decide +kernel) (by decide +kernel)
theorem kst_X7_faultOfWord : Cond.static yX7_faultOfWord ∈ lw_good := mem_good 417 (by decide +kernel) (by decide +kernel)
theorem cl_X7_faultOfWord : ClS yX7_faultOfWord cX7_faultOfWord 2 (some .int) 2 := ⟨⟨kcd_X7_faultOfWord, kzX7, by decide +kernel⟩, kst_X7_faultOfWord⟩
theorem kcd_X1_isThere : Cond.code yX1_isThere cX1_isThere 1 (some .boolean) ∈ lw_good := mem_good 422 (by decide +kernel) (by decide +kernel)
theorem kin_X1_isThere : Cond.instanceMethod yX1_isThere ∈ lw_good := mem_good 420 (by decide +kernel) (by decide +kernel)
theorem ksl_X1_isThere : Cond.selects RX1 yX1_isThere yX1_isThere ∈ lw_good := mem_good 421 (by decide +kernel) (by decide +kernel)
theorem cl_X1_isThere : ClV yX1_isThere cX1_isThere 1 (some .boolean) 0 := ⟨⟨kcd_X1_isThere, kzX1, by decide +kernel⟩, kin_X1_isThere, ksl_X1_isThere⟩
theorem kcd_X7_note : Cond.code yX7_note cX7_note 3 none ∈ lw_good := mem_good 426 (by decide +kernel) (by decide +kernel)
theorem kin_X7_note : Cond.instanceMethod yX7_note ∈ lw_good := mem_good 425 (by decide +kernel) (by decide +kernel)
theorem ksl_X7_note : Cond.selects RX7 yX7_note yX7_note ∈ lw_good := mem_good 3 (by decide +kernel) (by decide +kernel)
theorem cl_X7_note : ClV yX7_note cX7_note 3 none 2 := ⟨⟨kcd_X7_note, kzX7, by decide +kernel⟩, kin_X7_note, ksl_X7_note⟩
theorem kcd_X7_readRate : Cond.code yX7_readRate cX7_readRate 4 none ∈ lw_good := mem_good 430 (by decide +kernel) (by decide +kernel)
theorem kin_X7_readRate : Cond.instanceMethod yX7_readRate ∈ lw_good := mem_good 429 (by decide +kernel) (by decide +kernel)
theorem ksl_X7_readRate : Cond.selects RX7 yX7_readRate yX7_readRate ∈ lw_good := mem_good 4 (by decide +kernel) (by decide +kernel)
theorem cl_X7_readRate : ClV yX7_readRate cX7_readRate 4 none 1 := ⟨⟨kcd_X7_readRate, kzX7, by decide +kernel⟩, kin_X7_readRate, ksl_X7_readRate⟩
theorem kcd_X7_readNumber : Cond.code yX7_readNumber cX7_readNumber 5 (some .int) ∈ lw_good := mem_good 434 (by decide +kernel) (by decide +kernel)
theorem kin_X7_readNumber : Cond.instanceMethod yX7_readNumber ∈ lw_good := mem_good 433 (by decide +kernel) (by decide +kernel)
theorem ksl_X7_readNumber : Cond.selects RX7 yX7_readNumber yX7_readNumber ∈ lw_good := mem_good 5 (by decide +kernel) (by decide +kernel)
theorem cl_X7_readNumber : ClV yX7_readNumber cX7_readNumber 5 (some .int) 2 := ⟨⟨kcd_X7_readNumber, kzX7, by decide +kernel⟩, kin_X7_readNumber, ksl_X7_readNumber⟩
theorem kcd_X7_isFigure : Cond.code yX7_isFigure cX7_isFigure 1 (some .boolean) ∈ lw_good := mem_good 437 (by decide +kernel) (by decide +kernel)
theorem kst_X7_isFigure : Cond.static yX7_isFigure ∈ lw_good := mem_good 436 (by decide +kernel) (by decide +kernel)
theorem cl_X7_isFigure : ClS yX7_isFigure cX7_isFigure 1 (some .boolean) 1 := ⟨⟨kcd_X7_isFigure, kzX7, by decide +kernel⟩, kst_X7_isFigure⟩
theorem kcd_X7_readEnd : Cond.code yX7_readEnd cX7_readEnd 1 (some .boolean) ∈ lw_good := mem_good 441 (by decide +kernel) (by decide +kernel)
theorem kin_X7_readEnd : Cond.instanceMethod yX7_readEnd ∈ lw_good := mem_good 440 (by decide +kernel) (by decide +kernel)
theorem ksl_X7_readEnd : Cond.selects RX7 yX7_readEnd yX7_readEnd ∈ lw_good := mem_good 6 (by decide +kernel) (by decide +kernel)
theorem cl_X7_readEnd : ClV yX7_readEnd cX7_readEnd 1 (some .boolean) 0 := ⟨⟨kcd_X7_readEnd, kzX7, by decide +kernel⟩, kin_X7_readEnd, ksl_X7_readEnd⟩
theorem kcd_X7_readMatter : Cond.code yX7_readMatter cX7_readMatter 4 none ∈ lw_good := mem_good 445 (by decide +kernel) (by decide +kernel)
theorem kin_X7_readMatter : Cond.instanceMethod yX7_readMatter ∈ lw_good := mem_good 444 (by decide +kernel) (by decide +kernel)
theorem ksl_X7_readMatter : Cond.selects RX7 yX7_readMatter yX7_readMatter ∈ lw_good := mem_good 7 (by decide +kernel) (by decide +kernel)
theorem cl_X7_readMatter : ClV yX7_readMatter cX7_readMatter 4 none 1 := ⟨⟨kcd_X7_readMatter, kzX7, by decide +kernel⟩, kin_X7_readMatter, ksl_X7_readMatter⟩
theorem kcd_X1_addMatter : Cond.code yX1_addMatter cX1_addMatter 3 none ∈ lw_good := mem_good 449 (by decide +kernel) (by decide +kernel)
theorem kin_X1_addMatter : Cond.instanceMethod yX1_addMatter ∈ lw_good := mem_good 447 (by decide +kernel) (by decide +kernel)
theorem ksl_X1_addMatter : Cond.selects RX1 yX1_addMatter yX1_addMatter ∈ lw_good := mem_good 448 (by decide +kernel) (by decide +kernel)
theorem cl_X1_addMatter : ClV yX1_addMatter cX1_addMatter 3 none 2 := ⟨⟨kcd_X1_addMatter, kzX1, by decide +kernel⟩, kin_X1_addMatter, ksl_X1_addMatter⟩
theorem kcd_X7_readTraveller : Cond.code yX7_readTraveller cX7_readTraveller 5 none ∈ lw_good := mem_good 453 (by decide +kernel) (by decide +kernel)
theorem kin_X7_readTraveller : Cond.instanceMethod yX7_readTraveller ∈ lw_good := mem_good 452 (by decide +kernel) (by decide +kernel)
theorem ksl_X7_readTraveller : Cond.selects RX7 yX7_readTraveller yX7_readTraveller ∈ lw_good := mem_good 8 (by decide +kernel) (by decide +kernel)
theorem cl_X7_readTraveller : ClV yX7_readTraveller cX7_readTraveller 5 none 1 := ⟨⟨kcd_X7_readTraveller, kzX7, by decide +kernel⟩, kin_X7_readTraveller, ksl_X7_readTraveller⟩
theorem kcd_X1_addTraveller : Cond.code yX1_addTraveller cX1_addTraveller 4 none ∈ lw_good := mem_good 457 (by decide +kernel) (by decide +kernel)
theorem kin_X1_addTraveller : Cond.instanceMethod yX1_addTraveller ∈ lw_good := mem_good 455 (by decide +kernel) (by decide +kernel)
theorem ksl_X1_addTraveller : Cond.selects RX1 yX1_addTraveller yX1_addTraveller ∈ lw_good := mem_good 456 (by decide +kernel) (by decide +kernel)
theorem cl_X1_addTraveller : ClV yX1_addTraveller cX1_addTraveller 4 none 3 := ⟨⟨kcd_X1_addTraveller, kzX1, by decide +kernel⟩, kin_X1_addTraveller, ksl_X1_addTraveller⟩
theorem kcd_X1_settle : Cond.code yX1_settle cX1_settle 3 none ∈ lw_good := mem_good 461 (by decide +kernel) (by decide +kernel)
theorem kin_X1_settle : Cond.instanceMethod yX1_settle ∈ lw_good := mem_good 459 (by decide +kernel) (by decide +kernel)
theorem ksl_X1_settle : Cond.selects RX1 yX1_settle yX1_settle ∈ lw_good := mem_good 460 (by decide +kernel) (by decide +kernel)
theorem cl_X1_settle : ClV yX1_settle cX1_settle 3 none 0 := ⟨⟨kcd_X1_settle, kzX1, by decide +kernel⟩, kin_X1_settle, ksl_X1_settle⟩
theorem kcd_X9_setOfFirst : Cond.code yX9_setOfFirst cX9_setOfFirst 1 (some .int) ∈ lw_good := mem_good 464 (by decide +kernel) (by decide +kernel)
theorem kst_X9_setOfFirst : Cond.static yX9_setOfFirst ∈ lw_good := mem_good 463 (by decide +kernel) (by decide +kernel)
theorem cl_X9_setOfFirst : ClS yX9_setOfFirst cX9_setOfFirst 1 (some .int) 1 := ⟨⟨kcd_X9_setOfFirst, kzX9, by decide +kernel⟩, kst_X9_setOfFirst⟩
theorem kcd_X1_beginnersOf : Cond.code yX1_beginnersOf cX1_beginnersOf 5 (some .int) ∈ lw_good := mem_good 468 (by decide +kernel) (by decide +kernel)
theorem kin_X1_beginnersOf : Cond.instanceMethod yX1_beginnersOf ∈ lw_good := mem_good 467 (by decide +kernel) (by decide +kernel)
theorem ksl_X1_beginnersOf : Cond.selects RX1 yX1_beginnersOf yX1_beginnersOf ∈ lw_good := mem_good 9 (by decide +kernel) (by decide +kernel)
theorem cl_X1_beginnersOf : ClV yX1_beginnersOf cX1_beginnersOf 5 (some .int) 1 := ⟨⟨kcd_X1_beginnersOf, kzX1, by decide +kernel⟩, kin_X1_beginnersOf, ksl_X1_beginnersOf⟩
theorem kcd_X9_holds : Cond.code yX9_holds cX9_holds 2 (some .boolean) ∈ lw_good := mem_good 471 (by decide +kernel) (by decide +kernel)
theorem kst_X9_holds : Cond.static yX9_holds ∈ lw_good := mem_good 470 (by decide +kernel) (by decide +kernel)
theorem cl_X9_holds : ClS yX9_holds cX9_holds 2 (some .boolean) 2 := ⟨⟨kcd_X9_holds, kzX9, by decide +kernel⟩, kst_X9_holds⟩
theorem kcd_X7_empty : Cond.code yX7_empty cX7_empty 1 none ∈ lw_good := mem_good 475 (by decide +kernel) (by decide +kernel)
theorem kin_X7_empty : Cond.instanceMethod yX7_empty ∈ lw_good := mem_good 473 (by decide +kernel) (by decide +kernel)
theorem ksl_X7_empty : Cond.selects RX7 yX7_empty yX7_empty ∈ lw_good := mem_good 474 (by decide +kernel) (by decide +kernel)
theorem cl_X7_empty : ClV yX7_empty cX7_empty 1 none 0 := ⟨⟨kcd_X7_empty, kzX7, by decide +kernel⟩, kin_X7_empty, ksl_X7_empty⟩
theorem kcd_X9_beginBridge : Cond.code yX9_beginBridge cX9_beginBridge 2 none ∈ lw_good := mem_good 479 (by decide +kernel) (by decide +kernel)
theorem kin_X9_beginBridge : Cond.instanceMethod yX9_beginBridge ∈ lw_good := mem_good 478 (by decide +kernel) (by decide +kernel)
theorem ksl_X9_beginBridge : Cond.selects RX9 yX9_beginBridge yX9_beginBridge ∈ lw_good := mem_good 10 (by decide +kernel) (by decide +kernel)
theorem cl_X9_beginBridge : ClV yX9_beginBridge cX9_beginBridge 2 none 0 := ⟨⟨kcd_X9_beginBridge, kzX9, by decide +kernel⟩, kin_X9_beginBridge, ksl_X9_beginBridge⟩
theorem kcd_X3_begin : Cond.code yX3_begin cX3_begin 2 none ∈ lw_good := mem_good 483 (by decide +kernel) (by decide +kernel)
theorem kin_X3_begin : Cond.instanceMethod yX3_begin ∈ lw_good := mem_good 481 (by decide +kernel) (by decide +kernel)
theorem ksl_X3_begin : Cond.selects RX3 yX3_begin yX3_begin ∈ lw_good := mem_good 482 (by decide +kernel) (by decide +kernel)
theorem cl_X3_begin : ClV yX3_begin cX3_begin 2 none 1 := ⟨⟨kcd_X3_begin, kzX3, by decide +kernel⟩, kin_X3_begin, ksl_X3_begin⟩
theorem kcd_X3_gather : Cond.code yX3_gather cX3_gather 3 none ∈ lw_good := mem_good 487 (by decide +kernel) (by decide +kernel)
theorem kin_X3_gather : Cond.instanceMethod yX3_gather ∈ lw_good := mem_good 485 (by decide +kernel) (by decide +kernel)
theorem ksl_X3_gather : Cond.selects RX3 yX3_gather yX3_gather ∈ lw_good := mem_good 486 (by decide +kernel) (by decide +kernel)
theorem cl_X3_gather : ClV yX3_gather cX3_gather 3 none 1 := ⟨⟨kcd_X3_gather, kzX3, by decide +kernel⟩, kin_X3_gather, ksl_X3_gather⟩
theorem kcd_X3_emptySeat : Cond.code yX3_emptySeat cX3_emptySeat 1 none ∈ lw_good := mem_good 491 (by decide +kernel) (by decide +kernel)
theorem kin_X3_emptySeat : Cond.instanceMethod yX3_emptySeat ∈ lw_good := mem_good 490 (by decide +kernel) (by decide +kernel)
theorem ksl_X3_emptySeat : Cond.selects RX3 yX3_emptySeat yX3_emptySeat ∈ lw_good := mem_good 11 (by decide +kernel) (by decide +kernel)
theorem cl_X3_emptySeat : ClV yX3_emptySeat cX3_emptySeat 1 none 0 := ⟨⟨kcd_X3_emptySeat, kzX3, by decide +kernel⟩, kin_X3_emptySeat, ksl_X3_emptySeat⟩
theorem kcd_X6_forget : Cond.code yX6_forget cX6_forget 1 none ∈ lw_good := mem_good 496 (by decide +kernel) (by decide +kernel)
theorem kin_X6_forget : Cond.instanceMethod yX6_forget ∈ lw_good := mem_good 494 (by decide +kernel) (by decide +kernel)
theorem ksl_X6_forget : Cond.selects RX6 yX6_forget yX6_forget ∈ lw_good := mem_good 495 (by decide +kernel) (by decide +kernel)
theorem cl_X6_forget : ClV yX6_forget cX6_forget 1 none 0 := ⟨⟨kcd_X6_forget, kzX6, by decide +kernel⟩, kin_X6_forget, ksl_X6_forget⟩
theorem kcd_X2_forget : Cond.code yX2_forget cX2_forget 1 none ∈ lw_good := mem_good 500 (by decide +kernel) (by decide +kernel)
theorem kin_X2_forget : Cond.instanceMethod yX2_forget ∈ lw_good := mem_good 498 (by decide +kernel) (by decide +kernel)
theorem ksl_X2_forget : Cond.selects RX2 yX2_forget yX2_forget ∈ lw_good := mem_good 499 (by decide +kernel) (by decide +kernel)
theorem cl_X2_forget : ClV yX2_forget cX2_forget 1 none 0 := ⟨⟨kcd_X2_forget, kzX2, by decide +kernel⟩, kin_X2_forget, ksl_X2_forget⟩
theorem kcd_X9_fault : Cond.code yX9_fault cX9_fault 1 (some .int) ∈ lw_good := mem_good 504 (by decide +kernel) (by decide +kernel)
theorem kin_X9_fault : Cond.instanceMethod yX9_fault ∈ lw_good := mem_good 502 (by decide +kernel) (by decide +kernel)
theorem ksl_X9_fault : Cond.selects RX9 yX9_fault yX9_fault ∈ lw_good := mem_good 503 (by decide +kernel) (by decide +kernel)
theorem cl_X9_fault : ClV yX9_fault cX9_fault 1 (some .int) 0 := ⟨⟨kcd_X9_fault, kzX9, by decide +kernel⟩, kin_X9_fault, ksl_X9_fault⟩
theorem kcd_X9_told : Cond.code yX9_told cX9_told 2 (some .int) ∈ lw_good := mem_good 508 (by decide +kernel) (by decide +kernel)
theorem kin_X9_told : Cond.instanceMethod yX9_told ∈ lw_good := mem_good 506 (by decide +kernel) (by decide +kernel)
theorem ksl_X9_told : Cond.selects RX9 yX9_told yX9_told ∈ lw_good := mem_good 507 (by decide +kernel) (by decide +kernel)
theorem cl_X9_told : ClV yX9_told cX9_told 2 (some .int) 1 := ⟨⟨kcd_X9_told, kzX9, by decide +kernel⟩, kin_X9_told, ksl_X9_told⟩
theorem kcd_X1_nobodys : Cond.code yX1_nobodys cX1_nobodys 3 (some .int) ∈ lw_good := mem_good 512 (by decide +kernel) (by decide +kernel)
theorem kin_X1_nobodys : Cond.instanceMethod yX1_nobodys ∈ lw_good := mem_good 510 (by decide +kernel) (by decide +kernel)
theorem ksl_X1_nobodys : Cond.selects RX1 yX1_nobodys yX1_nobodys ∈ lw_good := mem_good 511 (by decide +kernel) (by decide +kernel)
theorem cl_X1_nobodys : ClV yX1_nobodys cX1_nobodys 3 (some .int) 0 := ⟨⟨kcd_X1_nobodys, kzX1, by decide +kernel⟩, kin_X1_nobodys, ksl_X1_nobodys⟩
theorem kcd_X3_longestSat : Cond.code yX3_longestSat cX3_longestSat 5 (some .int) ∈ lw_good := mem_good 516 (by decide +kernel) (by decide +kernel)
theorem kin_X3_longestSat : Cond.instanceMethod yX3_longestSat ∈ lw_good := mem_good 514 (by decide +kernel) (by decide +kernel)
theorem ksl_X3_longestSat : Cond.selects RX3 yX3_longestSat yX3_longestSat ∈ lw_good := mem_good 515 (by decide +kernel) (by decide +kernel)
theorem cl_X3_longestSat : ClV yX3_longestSat cX3_longestSat 5 (some .int) 1 := ⟨⟨kcd_X3_longestSat, kzX3, by decide +kernel⟩, kin_X3_longestSat, ksl_X3_longestSat⟩
theorem kcd_X8_bestToLearn : Cond.code yX8_bestToLearn cX8_bestToLearn 7 (some .int) ∈ lw_good := mem_good 520 (by decide +kernel) (by decide +kernel)
theorem kin_X8_bestToLearn : Cond.instanceMethod yX8_bestToLearn ∈ lw_good := mem_good 518 (by decide +kernel) (by decide +kernel)
theorem ksl_X8_bestToLearn : Cond.selects RX8 yX8_bestToLearn yX8_bestToLearn ∈ lw_good := mem_good 519 (by decide +kernel) (by decide +kernel)
theorem cl_X8_bestToLearn : ClV yX8_bestToLearn cX8_bestToLearn 7 (some .int) 2 := ⟨⟨kcd_X8_bestToLearn, kzX8, by decide +kernel⟩, kin_X8_bestToLearn, ksl_X8_bestToLearn⟩
theorem kcd_X8_worthOfAll : Cond.code yX8_worthOfAll cX8_worthOfAll 5 (some .int) ∈ lw_good := mem_good 525 (by decide +kernel) (by decide +kernel)
theorem kin_X8_worthOfAll : Cond.instanceMethod yX8_worthOfAll ∈ lw_good := mem_good 524 (by decide +kernel) (by decide +kernel)
theorem ksl_X8_worthOfAll : Cond.selects RX8 yX8_worthOfAll yX8_worthOfAll ∈ lw_good := mem_good 12 (by decide +kernel) (by decide +kernel)
theorem cl_X8_worthOfAll : ClV yX8_worthOfAll cX8_worthOfAll 5 (some .int) 2 := ⟨⟨kcd_X8_worthOfAll, kzX8, by decide +kernel⟩, kin_X8_worthOfAll, ksl_X8_worthOfAll⟩
theorem kcd_X8_tryWith : Cond.code yX8_tryWith cX8_tryWith 6 none ∈ lw_good := mem_good 529 (by decide +kernel) (by decide +kernel)
theorem kin_X8_tryWith : Cond.instanceMethod yX8_tryWith ∈ lw_good := mem_good 527 (by decide +kernel) (by decide +kernel)
theorem ksl_X8_tryWith : Cond.selects RX8 yX8_tryWith yX8_tryWith ∈ lw_good := mem_good 528 (by decide +kernel) (by decide +kernel)
theorem cl_X8_tryWith : ClV yX8_tryWith cX8_tryWith 6 none 3 := ⟨⟨kcd_X8_tryWith, kzX8, by decide +kernel⟩, kin_X8_tryWith, ksl_X8_tryWith⟩
theorem kcd_X9_leastOf : Cond.code yX9_leastOf cX9_leastOf 2 (some .int) ∈ lw_good := mem_good 533 (by decide +kernel) (by decide +kernel)
theorem kst_X9_leastOf : Cond.static yX9_leastOf ∈ lw_good := mem_good 532 (by decide +kernel) (by decide +kernel)
theorem cl_X9_leastOf : ClS yX9_leastOf cX9_leastOf 2 (some .int) 1 := ⟨⟨kcd_X9_leastOf, kzX9, by decide +kernel⟩, kst_X9_leastOf⟩
theorem kcd_X1_stayOf : Cond.code yX1_stayOf cX1_stayOf 3 (some .int) ∈ lw_good := mem_good 538 (by decide +kernel) (by decide +kernel)
theorem kin_X1_stayOf : Cond.instanceMethod yX1_stayOf ∈ lw_good := mem_good 536 (by decide +kernel) (by decide +kernel)
theorem ksl_X1_stayOf : Cond.selects RX1 yX1_stayOf yX1_stayOf ∈ lw_good := mem_good 537 (by decide +kernel) (by decide +kernel)
theorem cl_X1_stayOf : ClV yX1_stayOf cX1_stayOf 3 (some .int) 2 := ⟨⟨kcd_X1_stayOf, kzX1, by decide +kernel⟩, kin_X1_stayOf, ksl_X1_stayOf⟩
theorem kcd_X1_hasTraveller : Cond.code yX1_hasTraveller cX1_hasTraveller 2 (some .boolean) ∈ lw_good := mem_good 542 (by decide +kernel) (by decide +kernel)
theorem kin_X1_hasTraveller : Cond.instanceMethod yX1_hasTraveller ∈ lw_good := mem_good 540 (by decide +kernel) (by decide +kernel)
theorem ksl_X1_hasTraveller : Cond.selects RX1 yX1_hasTraveller yX1_hasTraveller ∈ lw_good := mem_good 541 (by decide +kernel) (by decide +kernel)
theorem cl_X1_hasTraveller : ClV yX1_hasTraveller cX1_hasTraveller 2 (some .boolean) 1 := ⟨⟨kcd_X1_hasTraveller, kzX1, by decide +kernel⟩, kin_X1_hasTraveller, ksl_X1_hasTraveller⟩
theorem kcd_X1_hasMatter : Cond.code yX1_hasMatter cX1_hasMatter 2 (some .boolean) ∈ lw_good := mem_good 546 (by decide +kernel) (by decide +kernel)
theorem kin_X1_hasMatter : Cond.instanceMethod yX1_hasMatter ∈ lw_good := mem_good 544 (by decide +kernel) (by decide +kernel)
theorem ksl_X1_hasMatter : Cond.selects RX1 yX1_hasMatter yX1_hasMatter ∈ lw_good := mem_good 545 (by decide +kernel) (by decide +kernel)
theorem cl_X1_hasMatter : ClV yX1_hasMatter cX1_hasMatter 2 (some .boolean) 1 := ⟨⟨kcd_X1_hasMatter, kzX1, by decide +kernel⟩, kin_X1_hasMatter, ksl_X1_hasMatter⟩
theorem kcd_J6_bitCount_0f7a4 : Cond.code yJ6_bitCount_0f7a4 cJ6_bitCount_0f7a4 1 (some .int) ∈ lw_good := mem_good 550 (by decide +kernel) (by decide +kernel)
theorem kst_J6_bitCount_0f7a4 : Cond.static yJ6_bitCount_0f7a4 ∈ lw_good := mem_good 549 (by decide +kernel) (by decide +kernel)
theorem cl_J6_bitCount_0f7a4 : ClS yJ6_bitCount_0f7a4 cJ6_bitCount_0f7a4 1 (some .int) 1 := ⟨⟨kcd_J6_bitCount_0f7a4, kzJ6, by decide +kernel⟩, kst_J6_bitCount_0f7a4⟩
theorem kcd_X8_weigh : Cond.code yX8_weigh cX8_weigh 5 none ∈ lw_good := mem_good 557 (by decide +kernel) (by decide +kernel)
theorem kin_X8_weigh : Cond.instanceMethod yX8_weigh ∈ lw_good := mem_good 556 (by decide +kernel) (by decide +kernel)
theorem ksl_X8_weigh : Cond.selects RX8 yX8_weigh yX8_weigh ∈ lw_good := mem_good 13 (by decide +kernel) (by decide +kernel)
theorem cl_X8_weigh : ClV yX8_weigh cX8_weigh 5 none 2 := ⟨⟨kcd_X8_weigh, kzX8, by decide +kernel⟩, kin_X8_weigh, ksl_X8_weigh⟩
theorem kcd_X1_payFor : Cond.code yX1_payFor cX1_payFor 2 (some .int) ∈ lw_good := mem_good 562 (by decide +kernel) (by decide +kernel)
theorem kin_X1_payFor : Cond.instanceMethod yX1_payFor ∈ lw_good := mem_good 560 (by decide +kernel) (by decide +kernel)
theorem ksl_X1_payFor : Cond.selects RX1 yX1_payFor yX1_payFor ∈ lw_good := mem_good 561 (by decide +kernel) (by decide +kernel)
theorem cl_X1_payFor : ClV yX1_payFor cX1_payFor 2 (some .int) 1 := ⟨⟨kcd_X1_payFor, kzX1, by decide +kernel⟩, kin_X1_payFor, ksl_X1_payFor⟩
theorem kcd_X9_toldOfEvening : Cond.code yX9_toldOfEvening cX9_toldOfEvening 2 (some .int) ∈ lw_good := mem_good 566 (by decide +kernel) (by decide +kernel)
theorem kin_X9_toldOfEvening : Cond.instanceMethod yX9_toldOfEvening ∈ lw_good := mem_good 565 (by decide +kernel) (by decide +kernel)
theorem ksl_X9_toldOfEvening : Cond.selects RX9 yX9_toldOfEvening yX9_toldOfEvening ∈ lw_good := mem_good 14 (by decide +kernel) (by decide +kernel)
theorem cl_X9_toldOfEvening : ClV yX9_toldOfEvening cX9_toldOfEvening 2 (some .int) 1 := ⟨⟨kcd_X9_toldOfEvening, kzX9, by decide +kernel⟩, kin_X9_toldOfEvening, ksl_X9_toldOfEvening⟩
theorem kcd_X9_matter : Cond.code yX9_matter cX9_matter 3 (some .int) ∈ lw_good := mem_good 570 (by decide +kernel) (by decide +kernel)
theorem kin_X9_matter : Cond.instanceMethod yX9_matter ∈ lw_good := mem_good 568 (by decide +kernel) (by decide +kernel)
theorem ksl_X9_matter : Cond.selects RX9 yX9_matter yX9_matter ∈ lw_good := mem_good 569 (by decide +kernel) (by decide +kernel)
theorem cl_X9_matter : ClV yX9_matter cX9_matter 3 (some .int) 2 := ⟨⟨kcd_X9_matter, kzX9, by decide +kernel⟩, kin_X9_matter, ksl_X9_matter⟩
theorem kcd_X1_leadsFrom : Cond.code yX1_leadsFrom cX1_leadsFrom 4 (some .int) ∈ lw_good := mem_good 576 (by decide +kernel) (by decide +kernel)
theorem kin_X1_leadsFrom : Cond.instanceMethod yX1_leadsFrom ∈ lw_good := mem_good 574 (by decide +kernel) (by decide +kernel)
theorem ksl_X1_leadsFrom : Cond.selects RX1 yX1_leadsFrom yX1_leadsFrom ∈ lw_good := mem_good 575 (by decide +kernel) (by decide +kernel)
theorem cl_X1_leadsFrom : ClV yX1_leadsFrom cX1_leadsFrom 4 (some .int) 1 := ⟨⟨kcd_X1_leadsFrom, kzX1, by decide +kernel⟩, kin_X1_leadsFrom, ksl_X1_leadsFrom⟩
theorem kcd_X1_oneStepFrom : Cond.code yX1_oneStepFrom cX1_oneStepFrom 4 (some .int) ∈ lw_good := mem_good 580 (by decide +kernel) (by decide +kernel)
theorem kin_X1_oneStepFrom : Cond.instanceMethod yX1_oneStepFrom ∈ lw_good := mem_good 579 (by decide +kernel) (by decide +kernel)
theorem ksl_X1_oneStepFrom : Cond.selects RX1 yX1_oneStepFrom yX1_oneStepFrom ∈ lw_good := mem_good 15 (by decide +kernel) (by decide +kernel)
theorem cl_X1_oneStepFrom : ClV yX1_oneStepFrom cX1_oneStepFrom 4 (some .int) 1 := ⟨⟨kcd_X1_oneStepFrom, kzX1, by decide +kernel⟩, kin_X1_oneStepFrom, ksl_X1_oneStepFrom⟩
theorem kcd_X1_stepsRound : Cond.code yX1_stepsRound cX1_stepsRound 4 (some .int) ∈ lw_good := mem_good 584 (by decide +kernel) (by decide +kernel)
theorem kin_X1_stepsRound : Cond.instanceMethod yX1_stepsRound ∈ lw_good := mem_good 582 (by decide +kernel) (by decide +kernel)
theorem ksl_X1_stepsRound : Cond.selects RX1 yX1_stepsRound yX1_stepsRound ∈ lw_good := mem_good 583 (by decide +kernel) (by decide +kernel)
theorem cl_X1_stepsRound : ClV yX1_stepsRound cX1_stepsRound 4 (some .int) 1 := ⟨⟨kcd_X1_stepsRound, kzX1, by decide +kernel⟩, kin_X1_stepsRound, ksl_X1_stepsRound⟩
theorem kcd_X9_traveller : Cond.code yX9_traveller cX9_traveller 3 (some .int) ∈ lw_good := mem_good 588 (by decide +kernel) (by decide +kernel)
theorem kin_X9_traveller : Cond.instanceMethod yX9_traveller ∈ lw_good := mem_good 586 (by decide +kernel) (by decide +kernel)
theorem ksl_X9_traveller : Cond.selects RX9 yX9_traveller yX9_traveller ∈ lw_good := mem_good 587 (by decide +kernel) (by decide +kernel)
theorem cl_X9_traveller : ClV yX9_traveller cX9_traveller 3 (some .int) 2 := ⟨⟨kcd_X9_traveller, kzX9, by decide +kernel⟩, kin_X9_traveller, ksl_X9_traveller⟩
theorem kcd_X3_patienceOf : Cond.code yX3_patienceOf cX3_patienceOf 3 (some .int) ∈ lw_good := mem_good 593 (by decide +kernel) (by decide +kernel)
theorem kin_X3_patienceOf : Cond.instanceMethod yX3_patienceOf ∈ lw_good := mem_good 591 (by decide +kernel) (by decide +kernel)
theorem ksl_X3_patienceOf : Cond.selects RX3 yX3_patienceOf yX3_patienceOf ∈ lw_good := mem_good 592 (by decide +kernel) (by decide +kernel)
theorem cl_X3_patienceOf : ClV yX3_patienceOf cX3_patienceOf 3 (some .int) 2 := ⟨⟨kcd_X3_patienceOf, kzX3, by decide +kernel⟩, kin_X3_patienceOf, ksl_X3_patienceOf⟩
theorem kcd_X1_mostWaiting : Cond.code yX1_mostWaiting cX1_mostWaiting 2 (some .int) ∈ lw_good := mem_good 599 (by decide +kernel) (by decide +kernel)
theorem kin_X1_mostWaiting : Cond.instanceMethod yX1_mostWaiting ∈ lw_good := mem_good 597 (by decide +kernel) (by decide +kernel)
theorem ksl_X1_mostWaiting : Cond.selects RX1 yX1_mostWaiting yX1_mostWaiting ∈ lw_good := mem_good 598 (by decide +kernel) (by decide +kernel)
theorem cl_X1_mostWaiting : ClV yX1_mostWaiting cX1_mostWaiting 2 (some .int) 1 := ⟨⟨kcd_X1_mostWaiting, kzX1, by decide +kernel⟩, kin_X1_mostWaiting, ksl_X1_mostWaiting⟩
theorem kcd_X1_favouriteOf : Cond.code yX1_favouriteOf cX1_favouriteOf 6 (some .int) ∈ lw_good := mem_good 603 (by decide +kernel) (by decide +kernel)
theorem kin_X1_favouriteOf : Cond.instanceMethod yX1_favouriteOf ∈ lw_good := mem_good 601 (by decide +kernel) (by decide +kernel)
theorem ksl_X1_favouriteOf : Cond.selects RX1 yX1_favouriteOf yX1_favouriteOf ∈ lw_good := mem_good 602 (by decide +kernel) (by decide +kernel)
theorem cl_X1_favouriteOf : ClV yX1_favouriteOf cX1_favouriteOf 6 (some .int) 1 := ⟨⟨kcd_X1_favouriteOf, kzX1, by decide +kernel⟩, kin_X1_favouriteOf, ksl_X1_favouriteOf⟩
theorem kcd_X9_seat : Cond.code yX9_seat cX9_seat 2 (some .int) ∈ lw_good := mem_good 608 (by decide +kernel) (by decide +kernel)
theorem kin_X9_seat : Cond.instanceMethod yX9_seat ∈ lw_good := mem_good 606 (by decide +kernel) (by decide +kernel)
theorem ksl_X9_seat : Cond.selects RX9 yX9_seat yX9_seat ∈ lw_good := mem_good 607 (by decide +kernel) (by decide +kernel)
theorem cl_X9_seat : ClV yX9_seat cX9_seat 2 (some .int) 1 := ⟨⟨kcd_X9_seat, kzX9, by decide +kernel⟩, kin_X9_seat, ksl_X9_seat⟩
theorem kcd_X6_remember : Cond.code yX6_remember cX6_remember 2 none ∈ lw_good := mem_good 613 (by decide +kernel) (by decide +kernel)
theorem kin_X6_remember : Cond.instanceMethod yX6_remember ∈ lw_good := mem_good 611 (by decide +kernel) (by decide +kernel)
theorem ksl_X6_remember : Cond.selects RX6 yX6_remember yX6_remember ∈ lw_good := mem_good 612 (by decide +kernel) (by decide +kernel)
theorem cl_X6_remember : ClV yX6_remember cX6_remember 2 none 1 := ⟨⟨kcd_X6_remember, kzX6, by decide +kernel⟩, kin_X6_remember, ksl_X6_remember⟩
theorem kcd_X3_copyFrom : Cond.code yX3_copyFrom cX3_copyFrom 3 none ∈ lw_good := mem_good 617 (by decide +kernel) (by decide +kernel)
theorem kin_X3_copyFrom : Cond.instanceMethod yX3_copyFrom ∈ lw_good := mem_good 615 (by decide +kernel) (by decide +kernel)
theorem ksl_X3_copyFrom : Cond.selects RX3 yX3_copyFrom yX3_copyFrom ∈ lw_good := mem_good 616 (by decide +kernel) (by decide +kernel)
theorem cl_X3_copyFrom : ClV yX3_copyFrom cX3_copyFrom 3 none 1 := ⟨⟨kcd_X3_copyFrom, kzX3, by decide +kernel⟩, kin_X3_copyFrom, ksl_X3_copyFrom⟩
theorem kcd_X3_takeSeat : Cond.code yX3_takeSeat cX3_takeSeat 2 none ∈ lw_good := mem_good 624 (by decide +kernel) (by decide +kernel)
theorem kin_X3_takeSeat : Cond.instanceMethod yX3_takeSeat ∈ lw_good := mem_good 622 (by decide +kernel) (by decide +kernel)
theorem ksl_X3_takeSeat : Cond.selects RX3 yX3_takeSeat yX3_takeSeat ∈ lw_good := mem_good 623 (by decide +kernel) (by decide +kernel)
theorem cl_X3_takeSeat : ClV yX3_takeSeat cX3_takeSeat 2 none 1 := ⟨⟨kcd_X3_takeSeat, kzX3, by decide +kernel⟩, kin_X3_takeSeat, ksl_X3_takeSeat⟩
theorem kcd_X9_tell : Cond.code yX9_tell cX9_tell 2 (some .int) ∈ lw_good := mem_good 628 (by decide +kernel) (by decide +kernel)
theorem kin_X9_tell : Cond.instanceMethod yX9_tell ∈ lw_good := mem_good 626 (by decide +kernel) (by decide +kernel)
theorem ksl_X9_tell : Cond.selects RX9 yX9_tell yX9_tell ∈ lw_good := mem_good 627 (by decide +kernel) (by decide +kernel)
theorem cl_X9_tell : ClV yX9_tell cX9_tell 2 (some .int) 1 := ⟨⟨kcd_X9_tell, kzX9, by decide +kernel⟩, kin_X9_tell, ksl_X9_tell⟩
theorem kcd_X3_canHear : Cond.code yX3_canHear cX3_canHear 2 (some .boolean) ∈ lw_good := mem_good 632 (by decide +kernel) (by decide +kernel)
theorem kin_X3_canHear : Cond.instanceMethod yX3_canHear ∈ lw_good := mem_good 630 (by decide +kernel) (by decide +kernel)
theorem ksl_X3_canHear : Cond.selects RX3 yX3_canHear yX3_canHear ∈ lw_good := mem_good 631 (by decide +kernel) (by decide +kernel)
theorem cl_X3_canHear : ClV yX3_canHear cX3_canHear 2 (some .boolean) 1 := ⟨⟨kcd_X3_canHear, kzX3, by decide +kernel⟩, kin_X3_canHear, ksl_X3_canHear⟩
theorem kcd_X3_hear : Cond.code yX3_hear cX3_hear 4 (some .int) ∈ lw_good := mem_good 636 (by decide +kernel) (by decide +kernel)
theorem kin_X3_hear : Cond.instanceMethod yX3_hear ∈ lw_good := mem_good 634 (by decide +kernel) (by decide +kernel)
theorem ksl_X3_hear : Cond.selects RX3 yX3_hear yX3_hear ∈ lw_good := mem_good 635 (by decide +kernel) (by decide +kernel)
theorem cl_X3_hear : ClV yX3_hear cX3_hear 4 (some .int) 2 := ⟨⟨kcd_X3_hear, kzX3, by decide +kernel⟩, kin_X3_hear, ksl_X3_hear⟩
theorem kcd_X3_follows : Cond.code yX3_follows cX3_follows 3 (some .boolean) ∈ lw_good := mem_good 640 (by decide +kernel) (by decide +kernel)
theorem kin_X3_follows : Cond.instanceMethod yX3_follows ∈ lw_good := mem_good 639 (by decide +kernel) (by decide +kernel)
theorem ksl_X3_follows : Cond.selects RX3 yX3_follows yX3_follows ∈ lw_good := mem_good 16 (by decide +kernel) (by decide +kernel)
theorem cl_X3_follows : ClV yX3_follows cX3_follows 3 (some .boolean) 2 := ⟨⟨kcd_X3_follows, kzX3, by decide +kernel⟩, kin_X3_follows, ksl_X3_follows⟩
theorem kcd_X3_leaveSeat : Cond.code yX3_leaveSeat cX3_leaveSeat 4 (some .int) ∈ lw_good := mem_good 645 (by decide +kernel) (by decide +kernel)
theorem kin_X3_leaveSeat : Cond.instanceMethod yX3_leaveSeat ∈ lw_good := mem_good 643 (by decide +kernel) (by decide +kernel)
theorem ksl_X3_leaveSeat : Cond.selects RX3 yX3_leaveSeat yX3_leaveSeat ∈ lw_good := mem_good 644 (by decide +kernel) (by decide +kernel)
theorem cl_X3_leaveSeat : ClV yX3_leaveSeat cX3_leaveSeat 4 (some .int) 1 := ⟨⟨kcd_X3_leaveSeat, kzX3, by decide +kernel⟩, kin_X3_leaveSeat, ksl_X3_leaveSeat⟩
theorem kcd_X1_isProfessor : Cond.code yX1_isProfessor cX1_isProfessor 2 (some .boolean) ∈ lw_good := mem_good 652 (by decide +kernel) (by decide +kernel)
theorem kin_X1_isProfessor : Cond.instanceMethod yX1_isProfessor ∈ lw_good := mem_good 650 (by decide +kernel) (by decide +kernel)
theorem ksl_X1_isProfessor : Cond.selects RX1 yX1_isProfessor yX1_isProfessor ∈ lw_good := mem_good 651 (by decide +kernel) (by decide +kernel)
theorem cl_X1_isProfessor : ClV yX1_isProfessor cX1_isProfessor 2 (some .boolean) 1 := ⟨⟨kcd_X1_isProfessor, kzX1, by decide +kernel⟩, kin_X1_isProfessor, ksl_X1_isProfessor⟩
theorem kcd_X3_takeUp : Cond.code yX3_takeUp cX3_takeUp 3 none ∈ lw_good := mem_good 656 (by decide +kernel) (by decide +kernel)
theorem kin_X3_takeUp : Cond.instanceMethod yX3_takeUp ∈ lw_good := mem_good 655 (by decide +kernel) (by decide +kernel)
theorem ksl_X3_takeUp : Cond.selects RX3 yX3_takeUp yX3_takeUp ∈ lw_good := mem_good 17 (by decide +kernel) (by decide +kernel)
theorem cl_X3_takeUp : ClV yX3_takeUp cX3_takeUp 3 none 1 := ⟨⟨kcd_X3_takeUp, kzX3, by decide +kernel⟩, kin_X3_takeUp, ksl_X3_takeUp⟩
theorem kcd_X3_passMinutes : Cond.code yX3_passMinutes cX3_passMinutes 5 none ∈ lw_good := mem_good 661 (by decide +kernel) (by decide +kernel)
theorem kin_X3_passMinutes : Cond.instanceMethod yX3_passMinutes ∈ lw_good := mem_good 659 (by decide +kernel) (by decide +kernel)
theorem ksl_X3_passMinutes : Cond.selects RX3 yX3_passMinutes yX3_passMinutes ∈ lw_good := mem_good 660 (by decide +kernel) (by decide +kernel)
theorem cl_X3_passMinutes : ClV yX3_passMinutes cX3_passMinutes 5 none 2 := ⟨⟨kcd_X3_passMinutes, kzX3, by decide +kernel⟩, kin_X3_passMinutes, ksl_X3_passMinutes⟩
theorem kcd_X9_rise : Cond.code yX9_rise cX9_rise 1 (some .int) ∈ lw_good := mem_good 665 (by decide +kernel) (by decide +kernel)
theorem kin_X9_rise : Cond.instanceMethod yX9_rise ∈ lw_good := mem_good 663 (by decide +kernel) (by decide +kernel)
theorem ksl_X9_rise : Cond.selects RX9 yX9_rise yX9_rise ∈ lw_good := mem_good 664 (by decide +kernel) (by decide +kernel)
theorem cl_X9_rise : ClV yX9_rise cX9_rise 1 (some .int) 0 := ⟨⟨kcd_X9_rise, kzX9, by decide +kernel⟩, kin_X9_rise, ksl_X9_rise⟩
theorem kcd_X9_learn : Cond.code yX9_learn cX9_learn 2 (some .int) ∈ lw_good := mem_good 670 (by decide +kernel) (by decide +kernel)
theorem kin_X9_learn : Cond.instanceMethod yX9_learn ∈ lw_good := mem_good 668 (by decide +kernel) (by decide +kernel)
theorem ksl_X9_learn : Cond.selects RX9 yX9_learn yX9_learn ∈ lw_good := mem_good 669 (by decide +kernel) (by decide +kernel)
theorem cl_X9_learn : ClV yX9_learn cX9_learn 2 (some .int) 1 := ⟨⟨kcd_X9_learn, kzX9, by decide +kernel⟩, kin_X9_learn, ksl_X9_learn⟩
theorem kcd_X9_minute : Cond.code yX9_minute cX9_minute 2 (some .int) ∈ lw_good := mem_good 676 (by decide +kernel) (by decide +kernel)
theorem kin_X9_minute : Cond.instanceMethod yX9_minute ∈ lw_good := mem_good 674 (by decide +kernel) (by decide +kernel)
theorem ksl_X9_minute : Cond.selects RX9 yX9_minute yX9_minute ∈ lw_good := mem_good 675 (by decide +kernel) (by decide +kernel)
theorem cl_X9_minute : ClV yX9_minute cX9_minute 2 (some .int) 1 := ⟨⟨kcd_X9_minute, kzX9, by decide +kernel⟩, kin_X9_minute, ksl_X9_minute⟩
theorem kcd_X9_anew : Cond.code yX9_anew cX9_anew 1 (some .int) ∈ lw_good := mem_good 682 (by decide +kernel) (by decide +kernel)
theorem kin_X9_anew : Cond.instanceMethod yX9_anew ∈ lw_good := mem_good 680 (by decide +kernel) (by decide +kernel)
theorem ksl_X9_anew : Cond.selects RX9 yX9_anew yX9_anew ∈ lw_good := mem_good 681 (by decide +kernel) (by decide +kernel)
theorem cl_X9_anew : ClV yX9_anew cX9_anew 1 (some .int) 0 := ⟨⟨kcd_X9_anew, kzX9, by decide +kernel⟩, kin_X9_anew, ksl_X9_anew⟩
theorem kcd_X9_drift : Cond.code yX9_drift cX9_drift 3 (some .int) ∈ lw_good := mem_good 687 (by decide +kernel) (by decide +kernel)
theorem kin_X9_drift : Cond.instanceMethod yX9_drift ∈ lw_good := mem_good 685 (by decide +kernel) (by decide +kernel)
theorem ksl_X9_drift : Cond.selects RX9 yX9_drift yX9_drift ∈ lw_good := mem_good 686 (by decide +kernel) (by decide +kernel)
theorem cl_X9_drift : ClV yX9_drift cX9_drift 3 (some .int) 1 := ⟨⟨kcd_X9_drift, kzX9, by decide +kernel⟩, kin_X9_drift, ksl_X9_drift⟩
theorem kcd_X9_driftOnce : Cond.code yX9_driftOnce cX9_driftOnce 1 none ∈ lw_good := mem_good 691 (by decide +kernel) (by decide +kernel)
theorem kin_X9_driftOnce : Cond.instanceMethod yX9_driftOnce ∈ lw_good := mem_good 690 (by decide +kernel) (by decide +kernel)
theorem ksl_X9_driftOnce : Cond.selects RX9 yX9_driftOnce yX9_driftOnce ∈ lw_good := mem_good 18 (by decide +kernel) (by decide +kernel)
theorem cl_X9_driftOnce : ClV yX9_driftOnce cX9_driftOnce 1 none 0 := ⟨⟨kcd_X9_driftOnce, kzX9, by decide +kernel⟩, kin_X9_driftOnce, ksl_X9_driftOnce⟩
theorem kcd_X9_drawSeat : Cond.code yX9_drawSeat cX9_drawSeat 2 none ∈ lw_good := mem_good 695 (by decide +kernel) (by decide +kernel)
theorem kin_X9_drawSeat : Cond.instanceMethod yX9_drawSeat ∈ lw_good := mem_good 694 (by decide +kernel) (by decide +kernel)
theorem ksl_X9_drawSeat : Cond.selects RX9 yX9_drawSeat yX9_drawSeat ∈ lw_good := mem_good 19 (by decide +kernel) (by decide +kernel)
theorem cl_X9_drawSeat : ClV yX9_drawSeat cX9_drawSeat 2 none 0 := ⟨⟨kcd_X9_drawSeat, kzX9, by decide +kernel⟩, kin_X9_drawSeat, ksl_X9_drawSeat⟩
theorem kcd_X9_drawOf : Cond.code yX9_drawOf cX9_drawOf 2 (some .int) ∈ lw_good := mem_good 699 (by decide +kernel) (by decide +kernel)
theorem kin_X9_drawOf : Cond.instanceMethod yX9_drawOf ∈ lw_good := mem_good 698 (by decide +kernel) (by decide +kernel)
theorem ksl_X9_drawOf : Cond.selects RX9 yX9_drawOf yX9_drawOf ∈ lw_good := mem_good 20 (by decide +kernel) (by decide +kernel)
theorem cl_X9_drawOf : ClV yX9_drawOf cX9_drawOf 2 (some .int) 1 := ⟨⟨kcd_X9_drawOf, kzX9, by decide +kernel⟩, kin_X9_drawOf, ksl_X9_drawOf⟩
theorem kcd_X9_drawTelling : Cond.code yX9_drawTelling cX9_drawTelling 2 none ∈ lw_good := mem_good 707 (by decide +kernel) (by decide +kernel)
theorem kin_X9_drawTelling : Cond.instanceMethod yX9_drawTelling ∈ lw_good := mem_good 706 (by decide +kernel) (by decide +kernel)
theorem ksl_X9_drawTelling : Cond.selects RX9 yX9_drawTelling yX9_drawTelling ∈ lw_good := mem_good 21 (by decide +kernel) (by decide +kernel)
theorem cl_X9_drawTelling : ClV yX9_drawTelling cX9_drawTelling 2 none 0 := ⟨⟨kcd_X9_drawTelling, kzX9, by decide +kernel⟩, kin_X9_drawTelling, ksl_X9_drawTelling⟩
theorem kcd_X9_undo : Cond.code yX9_undo cX9_undo 2 (some .int) ∈ lw_good := mem_good 711 (by decide +kernel) (by decide +kernel)
theorem kin_X9_undo : Cond.instanceMethod yX9_undo ∈ lw_good := mem_good 709 (by decide +kernel) (by decide +kernel)
theorem ksl_X9_undo : Cond.selects RX9 yX9_undo yX9_undo ∈ lw_good := mem_good 710 (by decide +kernel) (by decide +kernel)
theorem cl_X9_undo : ClV yX9_undo cX9_undo 2 (some .int) 1 := ⟨⟨kcd_X9_undo, kzX9, by decide +kernel⟩, kin_X9_undo, ksl_X9_undo⟩
theorem kcd_X6_takeBack : Cond.code yX6_takeBack cX6_takeBack 3 none ∈ lw_good := mem_good 715 (by decide +kernel) (by decide +kernel)
theorem kin_X6_takeBack : Cond.instanceMethod yX6_takeBack ∈ lw_good := mem_good 713 (by decide +kernel) (by decide +kernel)
theorem ksl_X6_takeBack : Cond.selects RX6 yX6_takeBack yX6_takeBack ∈ lw_good := mem_good 714 (by decide +kernel) (by decide +kernel)
theorem cl_X6_takeBack : ClV yX6_takeBack cX6_takeBack 3 none 2 := ⟨⟨kcd_X6_takeBack, kzX6, by decide +kernel⟩, kin_X6_takeBack, ksl_X6_takeBack⟩
theorem kcd_X9_stay : Cond.code yX9_stay cX9_stay 3 (some .int) ∈ lw_good := mem_good 719 (by decide +kernel) (by decide +kernel)
theorem kin_X9_stay : Cond.instanceMethod yX9_stay ∈ lw_good := mem_good 717 (by decide +kernel) (by decide +kernel)
theorem ksl_X9_stay : Cond.selects RX9 yX9_stay yX9_stay ∈ lw_good := mem_good 718 (by decide +kernel) (by decide +kernel)
theorem cl_X9_stay : ClV yX9_stay cX9_stay 3 (some .int) 2 := ⟨⟨kcd_X9_stay, kzX9, by decide +kernel⟩, kin_X9_stay, ksl_X9_stay⟩
theorem kcd_X9_talk : Cond.code yX9_talk cX9_talk 3 (some .int) ∈ lw_good := mem_good 724 (by decide +kernel) (by decide +kernel)
theorem kin_X9_talk : Cond.instanceMethod yX9_talk ∈ lw_good := mem_good 722 (by decide +kernel) (by decide +kernel)
theorem ksl_X9_talk : Cond.selects RX9 yX9_talk yX9_talk ∈ lw_good := mem_good 723 (by decide +kernel) (by decide +kernel)
theorem cl_X9_talk : ClV yX9_talk cX9_talk 3 (some .int) 2 := ⟨⟨kcd_X9_talk, kzX9, by decide +kernel⟩, kin_X9_talk, ksl_X9_talk⟩
theorem kcd_X9_queue : Cond.code yX9_queue cX9_queue 2 (some .int) ∈ lw_good := mem_good 730 (by decide +kernel) (by decide +kernel)
theorem kin_X9_queue : Cond.instanceMethod yX9_queue ∈ lw_good := mem_good 728 (by decide +kernel) (by decide +kernel)
theorem ksl_X9_queue : Cond.selects RX9 yX9_queue yX9_queue ∈ lw_good := mem_good 729 (by decide +kernel) (by decide +kernel)
theorem cl_X9_queue : ClV yX9_queue cX9_queue 2 (some .int) 1 := ⟨⟨kcd_X9_queue, kzX9, by decide +kernel⟩, kin_X9_queue, ksl_X9_queue⟩
theorem kcd_X5_fill : Cond.code yX5_fill cX5_fill 5 none ∈ lw_good := mem_good 734 (by decide +kernel) (by decide +kernel)
theorem kin_X5_fill : Cond.instanceMethod yX5_fill ∈ lw_good := mem_good 732 (by decide +kernel) (by decide +kernel)
theorem ksl_X5_fill : Cond.selects RX5 yX5_fill yX5_fill ∈ lw_good := mem_good 733 (by decide +kernel) (by decide +kernel)
theorem cl_X5_fill : ClV yX5_fill cX5_fill 5 none 3 := ⟨⟨kcd_X5_fill, kzX5, by decide +kernel⟩, kin_X5_fill, ksl_X5_fill⟩
theorem kcd_X5_tryOrders : Cond.code yX5_tryOrders cX5_tryOrders 4 none ∈ lw_good := mem_good 742 (by decide +kernel) (by decide +kernel)
theorem kin_X5_tryOrders : Cond.instanceMethod yX5_tryOrders ∈ lw_good := mem_good 740 (by decide +kernel) (by decide +kernel)
theorem ksl_X5_tryOrders : Cond.selects RX5 yX5_tryOrders yX5_tryOrders ∈ lw_good := mem_good 741 (by decide +kernel) (by decide +kernel)
theorem cl_X5_tryOrders : ClV yX5_tryOrders cX5_tryOrders 4 none 0 := ⟨⟨kcd_X5_tryOrders, kzX5, by decide +kernel⟩, kin_X5_tryOrders, ksl_X5_tryOrders⟩
theorem kcd_X5_payOfOrder : Cond.code yX5_payOfOrder cX5_payOfOrder 5 (some .int) ∈ lw_good := mem_good 746 (by decide +kernel) (by decide +kernel)
theorem kin_X5_payOfOrder : Cond.instanceMethod yX5_payOfOrder ∈ lw_good := mem_good 745 (by decide +kernel) (by decide +kernel)
theorem ksl_X5_payOfOrder : Cond.selects RX5 yX5_payOfOrder yX5_payOfOrder ∈ lw_good := mem_good 22 (by decide +kernel) (by decide +kernel)
theorem cl_X5_payOfOrder : ClV yX5_payOfOrder cX5_payOfOrder 5 (some .int) 0 := ⟨⟨kcd_X5_payOfOrder, kzX5, by decide +kernel⟩, kin_X5_payOfOrder, ksl_X5_payOfOrder⟩
theorem kcd_X5_figuresOfOrder : Cond.code yX5_figuresOfOrder cX5_figuresOfOrder 3 (some .int) ∈ lw_good := mem_good 750 (by decide +kernel) (by decide +kernel)
theorem kin_X5_figuresOfOrder : Cond.instanceMethod yX5_figuresOfOrder ∈ lw_good := mem_good 749 (by decide +kernel) (by decide +kernel)
theorem ksl_X5_figuresOfOrder : Cond.selects RX5 yX5_figuresOfOrder yX5_figuresOfOrder ∈ lw_good := mem_good 23 (by decide +kernel) (by decide +kernel)
theorem cl_X5_figuresOfOrder : ClV yX5_figuresOfOrder cX5_figuresOfOrder 3 (some .int) 0 := ⟨⟨kcd_X5_figuresOfOrder, kzX5, by decide +kernel⟩, kin_X5_figuresOfOrder, ksl_X5_figuresOfOrder⟩
theorem kcd_X5_nextOrder : Cond.code yX5_nextOrder cX5_nextOrder 5 (some .boolean) ∈ lw_good := mem_good 754 (by decide +kernel) (by decide +kernel)
theorem kin_X5_nextOrder : Cond.instanceMethod yX5_nextOrder ∈ lw_good := mem_good 753 (by decide +kernel) (by decide +kernel)
theorem ksl_X5_nextOrder : Cond.selects RX5 yX5_nextOrder yX5_nextOrder ∈ lw_good := mem_good 24 (by decide +kernel) (by decide +kernel)
theorem cl_X5_nextOrder : ClV yX5_nextOrder cX5_nextOrder 5 (some .boolean) 0 := ⟨⟨kcd_X5_nextOrder, kzX5, by decide +kernel⟩, kin_X5_nextOrder, ksl_X5_nextOrder⟩
theorem kcd_X5_swap : Cond.code yX5_swap cX5_swap 4 none ∈ lw_good := mem_good 758 (by decide +kernel) (by decide +kernel)
theorem kin_X5_swap : Cond.instanceMethod yX5_swap ∈ lw_good := mem_good 757 (by decide +kernel) (by decide +kernel)
theorem ksl_X5_swap : Cond.selects RX5 yX5_swap yX5_swap ∈ lw_good := mem_good 25 (by decide +kernel) (by decide +kernel)
theorem cl_X5_swap : ClV yX5_swap cX5_swap 4 none 2 := ⟨⟨kcd_X5_swap, kzX5, by decide +kernel⟩, kin_X5_swap, ksl_X5_swap⟩
theorem kcd_X9_dry : Cond.code yX9_dry cX9_dry 6 (some .int) ∈ lw_good := mem_good 762 (by decide +kernel) (by decide +kernel)
theorem kin_X9_dry : Cond.instanceMethod yX9_dry ∈ lw_good := mem_good 760 (by decide +kernel) (by decide +kernel)
theorem ksl_X9_dry : Cond.selects RX9 yX9_dry yX9_dry ∈ lw_good := mem_good 761 (by decide +kernel) (by decide +kernel)
theorem cl_X9_dry : ClV yX9_dry cX9_dry 6 (some .int) 2 := ⟨⟨kcd_X9_dry, kzX9, by decide +kernel⟩, kin_X9_dry, ksl_X9_dry⟩
theorem kcd_X9_stayed : Cond.code yX9_stayed cX9_stayed 3 (some .int) ∈ lw_good := mem_good 768 (by decide +kernel) (by decide +kernel)
theorem kin_X9_stayed : Cond.instanceMethod yX9_stayed ∈ lw_good := mem_good 766 (by decide +kernel) (by decide +kernel)
theorem ksl_X9_stayed : Cond.selects RX9 yX9_stayed yX9_stayed ∈ lw_good := mem_good 767 (by decide +kernel) (by decide +kernel)
theorem cl_X9_stayed : ClV yX9_stayed cX9_stayed 3 (some .int) 2 := ⟨⟨kcd_X9_stayed, kzX9, by decide +kernel⟩, kin_X9_stayed, ksl_X9_stayed⟩
theorem kcd_X2_add : Cond.code yX2_add cX2_add 3 (some .boolean) ∈ lw_good := mem_good 772 (by decide +kernel) (by decide +kernel)
theorem kin_X2_add : Cond.instanceMethod yX2_add ∈ lw_good := mem_good 770 (by decide +kernel) (by decide +kernel)
theorem ksl_X2_add : Cond.selects RX2 yX2_add yX2_add ∈ lw_good := mem_good 771 (by decide +kernel) (by decide +kernel)
theorem cl_X2_add : ClV yX2_add cX2_add 3 (some .boolean) 2 := ⟨⟨kcd_X2_add, kzX2, by decide +kernel⟩, kin_X2_add, ksl_X2_add⟩
theorem kcd_X9_couldBe : Cond.code yX9_couldBe cX9_couldBe 1 (some .int) ∈ lw_good := mem_good 776 (by decide +kernel) (by decide +kernel)
theorem kin_X9_couldBe : Cond.instanceMethod yX9_couldBe ∈ lw_good := mem_good 774 (by decide +kernel) (by decide +kernel)
theorem ksl_X9_couldBe : Cond.selects RX9 yX9_couldBe yX9_couldBe ∈ lw_good := mem_good 775 (by decide +kernel) (by decide +kernel)
theorem cl_X9_couldBe : ClV yX9_couldBe cX9_couldBe 1 (some .int) 0 := ⟨⟨kcd_X9_couldBe, kzX9, by decide +kernel⟩, kin_X9_couldBe, ksl_X9_couldBe⟩
theorem kcd_X2_fitting : Cond.code yX2_fitting cX2_fitting 4 (some .int) ∈ lw_good := mem_good 780 (by decide +kernel) (by decide +kernel)
theorem kin_X2_fitting : Cond.instanceMethod yX2_fitting ∈ lw_good := mem_good 778 (by decide +kernel) (by decide +kernel)
theorem ksl_X2_fitting : Cond.selects RX2 yX2_fitting yX2_fitting ∈ lw_good := mem_good 779 (by decide +kernel) (by decide +kernel)
theorem cl_X2_fitting : ClV yX2_fitting cX2_fitting 4 (some .int) 1 := ⟨⟨kcd_X2_fitting, kzX2, by decide +kernel⟩, kin_X2_fitting, ksl_X2_fitting⟩
theorem kcd_X2_fits : Cond.code yX2_fits cX2_fits 4 (some .boolean) ∈ lw_good := mem_good 784 (by decide +kernel) (by decide +kernel)
theorem kin_X2_fits : Cond.instanceMethod yX2_fits ∈ lw_good := mem_good 783 (by decide +kernel) (by decide +kernel)
theorem ksl_X2_fits : Cond.selects RX2 yX2_fits yX2_fits ∈ lw_good := mem_good 26 (by decide +kernel) (by decide +kernel)
theorem cl_X2_fits : ClV yX2_fits cX2_fits 4 (some .boolean) 2 := ⟨⟨kcd_X2_fits, kzX2, by decide +kernel⟩, kin_X2_fits, ksl_X2_fits⟩
theorem kcd_X9_ask : Cond.code yX9_ask cX9_ask 1 (some .int) ∈ lw_good := mem_good 789 (by decide +kernel) (by decide +kernel)
theorem kin_X9_ask : Cond.instanceMethod yX9_ask ∈ lw_good := mem_good 787 (by decide +kernel) (by decide +kernel)
theorem ksl_X9_ask : Cond.selects RX9 yX9_ask yX9_ask ∈ lw_good := mem_good 788 (by decide +kernel) (by decide +kernel)
theorem cl_X9_ask : ClV yX9_ask cX9_ask 1 (some .int) 0 := ⟨⟨kcd_X9_ask, kzX9, by decide +kernel⟩, kin_X9_ask, ksl_X9_ask⟩
theorem kcd_X0_bestOf : Cond.code yX0_bestOf cX0_bestOf 6 (some .int) ∈ lw_good := mem_good 792 (by decide +kernel) (by decide +kernel)
theorem kst_X0_bestOf : Cond.static yX0_bestOf ∈ lw_good := mem_good 791 (by decide +kernel) (by decide +kernel)
theorem cl_X0_bestOf : ClS yX0_bestOf cX0_bestOf 6 (some .int) 2 := ⟨⟨kcd_X0_bestOf, kzX0, by decide +kernel⟩, kst_X0_bestOf⟩
theorem kcd_X0_greatestPart : Cond.code yX0_greatestPart cX0_greatestPart 5 (some .int) ∈ lw_good := mem_good 796 (by decide +kernel) (by decide +kernel)
theorem kst_X0_greatestPart : Cond.static yX0_greatestPart ∈ lw_good := mem_good 795 (by decide +kernel) (by decide +kernel)
theorem cl_X0_greatestPart : ClS yX0_greatestPart cX0_greatestPart 5 (some .int) 3 := ⟨⟨kcd_X0_greatestPart, kzX0, by decide +kernel⟩, kst_X0_greatestPart⟩
theorem kcd_X0_alike : Cond.code yX0_alike cX0_alike 6 (some .int) ∈ lw_good := mem_good 801 (by decide +kernel) (by decide +kernel)
theorem kst_X0_alike : Cond.static yX0_alike ∈ lw_good := mem_good 800 (by decide +kernel) (by decide +kernel)
theorem cl_X0_alike : ClS yX0_alike cX0_alike 6 (some .int) 4 := ⟨⟨kcd_X0_alike, kzX0, by decide +kernel⟩, kst_X0_alike⟩
theorem kcd_X9_write : Cond.code yX9_write cX9_write 3 (some .int) ∈ lw_good := mem_good 806 (by decide +kernel) (by decide +kernel)
theorem kin_X9_write : Cond.instanceMethod yX9_write ∈ lw_good := mem_good 804 (by decide +kernel) (by decide +kernel)
theorem ksl_X9_write : Cond.selects RX9 yX9_write yX9_write ∈ lw_good := mem_good 805 (by decide +kernel) (by decide +kernel)
theorem cl_X9_write : ClV yX9_write cX9_write 3 (some .int) 2 := ⟨⟨kcd_X9_write, kzX9, by decide +kernel⟩, kin_X9_write, ksl_X9_write⟩
theorem kcd_X9_judge : Cond.code yX9_judge cX9_judge 1 (some .int) ∈ lw_good := mem_good 810 (by decide +kernel) (by decide +kernel)
theorem kin_X9_judge : Cond.instanceMethod yX9_judge ∈ lw_good := mem_good 808 (by decide +kernel) (by decide +kernel)
theorem ksl_X9_judge : Cond.selects RX9 yX9_judge yX9_judge ∈ lw_good := mem_good 809 (by decide +kernel) (by decide +kernel)
theorem cl_X9_judge : ClV yX9_judge cX9_judge 1 (some .int) 0 := ⟨⟨kcd_X9_judge, kzX9, by decide +kernel⟩, kin_X9_judge, ksl_X9_judge⟩
theorem kcd_X2_firstWrong : Cond.code yX2_firstWrong cX2_firstWrong 4 (some .int) ∈ lw_good := mem_good 814 (by decide +kernel) (by decide +kernel)
theorem kin_X2_firstWrong : Cond.instanceMethod yX2_firstWrong ∈ lw_good := mem_good 812 (by decide +kernel) (by decide +kernel)
theorem ksl_X2_firstWrong : Cond.selects RX2 yX2_firstWrong yX2_firstWrong ∈ lw_good := mem_good 813 (by decide +kernel) (by decide +kernel)
theorem cl_X2_firstWrong : ClV yX2_firstWrong cX2_firstWrong 4 (some .int) 1 := ⟨⟨kcd_X2_firstWrong, kzX2, by decide +kernel⟩, kin_X2_firstWrong, ksl_X2_firstWrong⟩
theorem kcd_X9_tear : Cond.code yX9_tear cX9_tear 2 (some .int) ∈ lw_good := mem_good 818 (by decide +kernel) (by decide +kernel)
theorem kin_X9_tear : Cond.instanceMethod yX9_tear ∈ lw_good := mem_good 816 (by decide +kernel) (by decide +kernel)
theorem ksl_X9_tear : Cond.selects RX9 yX9_tear yX9_tear ∈ lw_good := mem_good 817 (by decide +kernel) (by decide +kernel)
theorem cl_X9_tear : ClV yX9_tear cX9_tear 2 (some .int) 0 := ⟨⟨kcd_X9_tear, kzX9, by decide +kernel⟩, kin_X9_tear, ksl_X9_tear⟩
theorem kcd_X9_seed : Cond.code yX9_seed cX9_seed 3 (some .int) ∈ lw_good := mem_good 822 (by decide +kernel) (by decide +kernel)
theorem kin_X9_seed : Cond.instanceMethod yX9_seed ∈ lw_good := mem_good 820 (by decide +kernel) (by decide +kernel)
theorem ksl_X9_seed : Cond.selects RX9 yX9_seed yX9_seed ∈ lw_good := mem_good 821 (by decide +kernel) (by decide +kernel)
theorem cl_X9_seed : ClV yX9_seed cX9_seed 3 (some .int) 1 := ⟨⟨kcd_X9_seed, kzX9, by decide +kernel⟩, kin_X9_seed, ksl_X9_seed⟩
theorem kcd_X9_keep : Cond.code yX9_keep cX9_keep 3 (some .int) ∈ lw_good := mem_good 826 (by decide +kernel) (by decide +kernel)
theorem kin_X9_keep : Cond.instanceMethod yX9_keep ∈ lw_good := mem_good 824 (by decide +kernel) (by decide +kernel)
theorem ksl_X9_keep : Cond.selects RX9 yX9_keep yX9_keep ∈ lw_good := mem_good 825 (by decide +kernel) (by decide +kernel)
theorem cl_X9_keep : ClV yX9_keep cX9_keep 3 (some .int) 1 := ⟨⟨kcd_X9_keep, kzX9, by decide +kernel⟩, kin_X9_keep, ksl_X9_keep⟩
theorem kcd_X9_goBack : Cond.code yX9_goBack cX9_goBack 3 (some .int) ∈ lw_good := mem_good 831 (by decide +kernel) (by decide +kernel)
theorem kin_X9_goBack : Cond.instanceMethod yX9_goBack ∈ lw_good := mem_good 829 (by decide +kernel) (by decide +kernel)
theorem ksl_X9_goBack : Cond.selects RX9 yX9_goBack yX9_goBack ∈ lw_good := mem_good 830 (by decide +kernel) (by decide +kernel)
theorem cl_X9_goBack : ClV yX9_goBack cX9_goBack 3 (some .int) 1 := ⟨⟨kcd_X9_goBack, kzX9, by decide +kernel⟩, kin_X9_goBack, ksl_X9_goBack⟩
theorem kcd_X10_init : Cond.code yX10_init cX10_init 1 none ∈ lw_good := mem_good 836 (by decide +kernel) (by decide +kernel)
theorem kin_X10_init : Cond.instanceMethod yX10_init ∈ lw_good := mem_good 835 (by decide +kernel) (by decide +kernel)
theorem cl_X10_init : ClI yX10_init cX10_init 1 0 := ⟨⟨kcd_X10_init, kzX10, by decide +kernel⟩, by decide +kernel, kin_X10_init⟩
theorem kcd_X10_feed : Cond.code yX10_feed cX10_feed 2 (some .int) ∈ lw_good := mem_good 973 (by decide +kernel) (by decide +kernel)
theorem kin_X10_feed : Cond.instanceMethod yX10_feed ∈ lw_good := mem_good 971 (by decide +kernel) (by decide +kernel)
theorem ksl_X10_feed : Cond.selects RX10 yX10_feed yX10_feed ∈ lw_good := mem_good 972 (by decide +kernel) (by decide +kernel)
theorem cl_X10_feed : ClV yX10_feed cX10_feed 2 (some .int) 1 := ⟨⟨kcd_X10_feed, kzX10, by decide +kernel⟩, kin_X10_feed, ksl_X10_feed⟩
theorem kcd_X10_in : Cond.code yX10_in cX10_in 3 (some .boolean) ∈ lw_good := mem_good 976 (by decide +kernel) (by decide +kernel)
theorem kst_X10_in : Cond.static yX10_in ∈ lw_good := mem_good 975 (by decide +kernel) (by decide +kernel)
theorem cl_X10_in : ClS yX10_in cX10_in 3 (some .boolean) 3 := ⟨⟨kcd_X10_in, kzX10, by decide +kernel⟩, kst_X10_in⟩
theorem kcd_X10_bridge : Cond.code yX10_bridge cX10_bridge 4 (some .int) ∈ lw_good := mem_good 982 (by decide +kernel) (by decide +kernel)
theorem kin_X10_bridge : Cond.instanceMethod yX10_bridge ∈ lw_good := mem_good 980 (by decide +kernel) (by decide +kernel)
theorem ksl_X10_bridge : Cond.selects RX10 yX10_bridge yX10_bridge ∈ lw_good := mem_good 981 (by decide +kernel) (by decide +kernel)
theorem cl_X10_bridge : ClV yX10_bridge cX10_bridge 4 (some .int) 0 := ⟨⟨kcd_X10_bridge, kzX10, by decide +kernel⟩, kin_X10_bridge, ksl_X10_bridge⟩
theorem kcd_X10_readsBridge : Cond.code yX10_readsBridge cX10_readsBridge 2 (some .boolean) ∈ lw_good := mem_good 986 (by decide +kernel) (by decide +kernel)
theorem kin_X10_readsBridge : Cond.instanceMethod yX10_readsBridge ∈ lw_good := mem_good 985 (by decide +kernel) (by decide +kernel)
theorem ksl_X10_readsBridge : Cond.selects RX10 yX10_readsBridge yX10_readsBridge ∈ lw_good := mem_good 27 (by decide +kernel) (by decide +kernel)
theorem cl_X10_readsBridge : ClV yX10_readsBridge cX10_readsBridge 2 (some .boolean) 0 := ⟨⟨kcd_X10_readsBridge, kzX10, by decide +kernel⟩, kin_X10_readsBridge, ksl_X10_readsBridge⟩
theorem kcd_X10_nextLetter : Cond.code yX10_nextLetter cX10_nextLetter 1 (some .int) ∈ lw_good := mem_good 990 (by decide +kernel) (by decide +kernel)
theorem kin_X10_nextLetter : Cond.instanceMethod yX10_nextLetter ∈ lw_good := mem_good 989 (by decide +kernel) (by decide +kernel)
theorem ksl_X10_nextLetter : Cond.selects RX10 yX10_nextLetter yX10_nextLetter ∈ lw_good := mem_good 28 (by decide +kernel) (by decide +kernel)
theorem cl_X10_nextLetter : ClV yX10_nextLetter cX10_nextLetter 1 (some .int) 0 := ⟨⟨kcd_X10_nextLetter, kzX10, by decide +kernel⟩, kin_X10_nextLetter, ksl_X10_nextLetter⟩
theorem kcd_X10_letterAt : Cond.code yX10_letterAt cX10_letterAt 2 (some .int) ∈ lw_good := mem_good 994 (by decide +kernel) (by decide +kernel)
theorem kin_X10_letterAt : Cond.instanceMethod yX10_letterAt ∈ lw_good := mem_good 993 (by decide +kernel) (by decide +kernel)
theorem ksl_X10_letterAt : Cond.selects RX10 yX10_letterAt yX10_letterAt ∈ lw_good := mem_good 29 (by decide +kernel) (by decide +kernel)
theorem cl_X10_letterAt : ClV yX10_letterAt cX10_letterAt 2 (some .int) 1 := ⟨⟨kcd_X10_letterAt, kzX10, by decide +kernel⟩, kin_X10_letterAt, ksl_X10_letterAt⟩
theorem kcd_X10_readsClause : Cond.code yX10_readsClause cX10_readsClause 4 (some .boolean) ∈ lw_good := mem_good 998 (by decide +kernel) (by decide +kernel)
theorem kin_X10_readsClause : Cond.instanceMethod yX10_readsClause ∈ lw_good := mem_good 997 (by decide +kernel) (by decide +kernel)
theorem ksl_X10_readsClause : Cond.selects RX10 yX10_readsClause yX10_readsClause ∈ lw_good := mem_good 30 (by decide +kernel) (by decide +kernel)
theorem cl_X10_readsClause : ClV yX10_readsClause cX10_readsClause 4 (some .boolean) 0 := ⟨⟨kcd_X10_readsClause, kzX10, by decide +kernel⟩, kin_X10_readsClause, ksl_X10_readsClause⟩
theorem kcd_X10_readsHead : Cond.code yX10_readsHead cX10_readsHead 3 (some .boolean) ∈ lw_good := mem_good 1002 (by decide +kernel) (by decide +kernel)
theorem kin_X10_readsHead : Cond.instanceMethod yX10_readsHead ∈ lw_good := mem_good 1001 (by decide +kernel) (by decide +kernel)
theorem ksl_X10_readsHead : Cond.selects RX10 yX10_readsHead yX10_readsHead ∈ lw_good := mem_good 31 (by decide +kernel) (by decide +kernel)
theorem cl_X10_readsHead : ClV yX10_readsHead cX10_readsHead 3 (some .boolean) 0 := ⟨⟨kcd_X10_readsHead, kzX10, by decide +kernel⟩, kin_X10_readsHead, ksl_X10_readsHead⟩
theorem kcd_X10_readsNumber : Cond.code yX10_readsNumber cX10_readsNumber 4 (some .int) ∈ lw_good := mem_good 1006 (by decide +kernel) (by decide +kernel)
theorem kin_X10_readsNumber : Cond.instanceMethod yX10_readsNumber ∈ lw_good := mem_good 1005 (by decide +kernel) (by decide +kernel)
theorem ksl_X10_readsNumber : Cond.selects RX10 yX10_readsNumber yX10_readsNumber ∈ lw_good := mem_good 32 (by decide +kernel) (by decide +kernel)
theorem cl_X10_readsNumber : ClV yX10_readsNumber cX10_readsNumber 4 (some .int) 2 := ⟨⟨kcd_X10_readsNumber, kzX10, by decide +kernel⟩, kin_X10_readsNumber, ksl_X10_readsNumber⟩
theorem kcd_X10_fails : Cond.code yX10_fails cX10_fails 3 (some .int) ∈ lw_good := mem_good 1010 (by decide +kernel) (by decide +kernel)
theorem kin_X10_fails : Cond.instanceMethod yX10_fails ∈ lw_good := mem_good 1009 (by decide +kernel) (by decide +kernel)
theorem ksl_X10_fails : Cond.selects RX10 yX10_fails yX10_fails ∈ lw_good := mem_good 33 (by decide +kernel) (by decide +kernel)
theorem cl_X10_fails : ClV yX10_fails cX10_fails 3 (some .int) 2 := ⟨⟨kcd_X10_fails, kzX10, by decide +kernel⟩, kin_X10_fails, ksl_X10_fails⟩
theorem kcd_X10_readsSign : Cond.code yX10_readsSign cX10_readsSign 2 (some .boolean) ∈ lw_good := mem_good 1014 (by decide +kernel) (by decide +kernel)
theorem kin_X10_readsSign : Cond.instanceMethod yX10_readsSign ∈ lw_good := mem_good 1013 (by decide +kernel) (by decide +kernel)
theorem ksl_X10_readsSign : Cond.selects RX10 yX10_readsSign yX10_readsSign ∈ lw_good := mem_good 34 (by decide +kernel) (by decide +kernel)
theorem cl_X10_readsSign : ClV yX10_readsSign cX10_readsSign 2 (some .boolean) 1 := ⟨⟨kcd_X10_readsSign, kzX10, by decide +kernel⟩, kin_X10_readsSign, ksl_X10_readsSign⟩
theorem kcd_X10_readsMatter : Cond.code yX10_readsMatter cX10_readsMatter 2 (some .boolean) ∈ lw_good := mem_good 1018 (by decide +kernel) (by decide +kernel)
theorem kin_X10_readsMatter : Cond.instanceMethod yX10_readsMatter ∈ lw_good := mem_good 1017 (by decide +kernel) (by decide +kernel)
theorem ksl_X10_readsMatter : Cond.selects RX10 yX10_readsMatter yX10_readsMatter ∈ lw_good := mem_good 35 (by decide +kernel) (by decide +kernel)
theorem cl_X10_readsMatter : ClV yX10_readsMatter cX10_readsMatter 2 (some .boolean) 0 := ⟨⟨kcd_X10_readsMatter, kzX10, by decide +kernel⟩, kin_X10_readsMatter, ksl_X10_readsMatter⟩
theorem kcd_X10_readsTraveller : Cond.code yX10_readsTraveller cX10_readsTraveller 2 (some .boolean) ∈ lw_good := mem_good 1022 (by decide +kernel) (by decide +kernel)
theorem kin_X10_readsTraveller : Cond.instanceMethod yX10_readsTraveller ∈ lw_good := mem_good 1021 (by decide +kernel) (by decide +kernel)
theorem ksl_X10_readsTraveller : Cond.selects RX10 yX10_readsTraveller yX10_readsTraveller ∈ lw_good := mem_good 36 (by decide +kernel) (by decide +kernel)
theorem cl_X10_readsTraveller : ClV yX10_readsTraveller cX10_readsTraveller 2 (some .boolean) 0 := ⟨⟨kcd_X10_readsTraveller, kzX10, by decide +kernel⟩, kin_X10_readsTraveller, ksl_X10_readsTraveller⟩
theorem kcd_X10_fault : Cond.code yX10_fault cX10_fault 1 (some .int) ∈ lw_good := mem_good 1026 (by decide +kernel) (by decide +kernel)
theorem kin_X10_fault : Cond.instanceMethod yX10_fault ∈ lw_good := mem_good 1024 (by decide +kernel) (by decide +kernel)
theorem ksl_X10_fault : Cond.selects RX10 yX10_fault yX10_fault ∈ lw_good := mem_good 1025 (by decide +kernel) (by decide +kernel)
theorem cl_X10_fault : ClV yX10_fault cX10_fault 1 (some .int) 0 := ⟨⟨kcd_X10_fault, kzX10, by decide +kernel⟩, kin_X10_fault, ksl_X10_fault⟩
theorem kcd_X10_told : Cond.code yX10_told cX10_told 2 (some .int) ∈ lw_good := mem_good 1030 (by decide +kernel) (by decide +kernel)
theorem kin_X10_told : Cond.instanceMethod yX10_told ∈ lw_good := mem_good 1028 (by decide +kernel) (by decide +kernel)
theorem ksl_X10_told : Cond.selects RX10 yX10_told yX10_told ∈ lw_good := mem_good 1029 (by decide +kernel) (by decide +kernel)
theorem cl_X10_told : ClV yX10_told cX10_told 2 (some .int) 1 := ⟨⟨kcd_X10_told, kzX10, by decide +kernel⟩, kin_X10_told, ksl_X10_told⟩
theorem kcd_X10_are : Cond.code yX10_are cX10_are 4 (some .int) ∈ lw_good := mem_good 1034 (by decide +kernel) (by decide +kernel)
theorem kin_X10_are : Cond.instanceMethod yX10_are ∈ lw_good := mem_good 1033 (by decide +kernel) (by decide +kernel)
theorem ksl_X10_are : Cond.selects RX10 yX10_are yX10_are ∈ lw_good := mem_good 37 (by decide +kernel) (by decide +kernel)
theorem cl_X10_are : ClV yX10_are cX10_are 4 (some .int) 1 := ⟨⟨kcd_X10_are, kzX10, by decide +kernel⟩, kin_X10_are, ksl_X10_are⟩
theorem kcd_X10_nobodys : Cond.code yX10_nobodys cX10_nobodys 3 (some .int) ∈ lw_good := mem_good 1038 (by decide +kernel) (by decide +kernel)
theorem kin_X10_nobodys : Cond.instanceMethod yX10_nobodys ∈ lw_good := mem_good 1037 (by decide +kernel) (by decide +kernel)
theorem ksl_X10_nobodys : Cond.selects RX10 yX10_nobodys yX10_nobodys ∈ lw_good := mem_good 38 (by decide +kernel) (by decide +kernel)
theorem cl_X10_nobodys : ClV yX10_nobodys cX10_nobodys 3 (some .int) 0 := ⟨⟨kcd_X10_nobodys, kzX10, by decide +kernel⟩, kin_X10_nobodys, ksl_X10_nobodys⟩
theorem kcd_X10_longestSat : Cond.code yX10_longestSat cX10_longestSat 4 (some .int) ∈ lw_good := mem_good 1042 (by decide +kernel) (by decide +kernel)
theorem kin_X10_longestSat : Cond.instanceMethod yX10_longestSat ∈ lw_good := mem_good 1041 (by decide +kernel) (by decide +kernel)
theorem ksl_X10_longestSat : Cond.selects RX10 yX10_longestSat yX10_longestSat ∈ lw_good := mem_good 39 (by decide +kernel) (by decide +kernel)
theorem cl_X10_longestSat : ClV yX10_longestSat cX10_longestSat 4 (some .int) 0 := ⟨⟨kcd_X10_longestSat, kzX10, by decide +kernel⟩, kin_X10_longestSat, ksl_X10_longestSat⟩
theorem kcd_X10_bestToLearn : Cond.code yX10_bestToLearn cX10_bestToLearn 5 (some .int) ∈ lw_good := mem_good 1046 (by decide +kernel) (by decide +kernel)
theorem kin_X10_bestToLearn : Cond.instanceMethod yX10_bestToLearn ∈ lw_good := mem_good 1045 (by decide +kernel) (by decide +kernel)
theorem ksl_X10_bestToLearn : Cond.selects RX10 yX10_bestToLearn yX10_bestToLearn ∈ lw_good := mem_good 40 (by decide +kernel) (by decide +kernel)
theorem cl_X10_bestToLearn : ClV yX10_bestToLearn cX10_bestToLearn 5 (some .int) 0 := ⟨⟨kcd_X10_bestToLearn, kzX10, by decide +kernel⟩, kin_X10_bestToLearn, ksl_X10_bestToLearn⟩
theorem kcd_X10_has : Cond.code yX10_has cX10_has 2 (some .boolean) ∈ lw_good := mem_good 1049 (by decide +kernel) (by decide +kernel)
theorem kst_X10_has : Cond.static yX10_has ∈ lw_good := mem_good 1048 (by decide +kernel) (by decide +kernel)
theorem cl_X10_has : ClS yX10_has cX10_has 2 (some .boolean) 2 := ⟨⟨kcd_X10_has, kzX10, by decide +kernel⟩, kst_X10_has⟩
theorem kcd_X10_worthOfAll : Cond.code yX10_worthOfAll cX10_worthOfAll 4 (some .int) ∈ lw_good := mem_good 1053 (by decide +kernel) (by decide +kernel)
theorem kin_X10_worthOfAll : Cond.instanceMethod yX10_worthOfAll ∈ lw_good := mem_good 1052 (by decide +kernel) (by decide +kernel)
theorem ksl_X10_worthOfAll : Cond.selects RX10 yX10_worthOfAll yX10_worthOfAll ∈ lw_good := mem_good 41 (by decide +kernel) (by decide +kernel)
theorem cl_X10_worthOfAll : ClV yX10_worthOfAll cX10_worthOfAll 4 (some .int) 1 := ⟨⟨kcd_X10_worthOfAll, kzX10, by decide +kernel⟩, kin_X10_worthOfAll, ksl_X10_worthOfAll⟩
theorem kcd_X10_layTalk : Cond.code yX10_layTalk cX10_layTalk 8 none ∈ lw_good := mem_good 1057 (by decide +kernel) (by decide +kernel)
theorem kin_X10_layTalk : Cond.instanceMethod yX10_layTalk ∈ lw_good := mem_good 1056 (by decide +kernel) (by decide +kernel)
theorem ksl_X10_layTalk : Cond.selects RX10 yX10_layTalk yX10_layTalk ∈ lw_good := mem_good 42 (by decide +kernel) (by decide +kernel)
theorem cl_X10_layTalk : ClV yX10_layTalk cX10_layTalk 8 none 2 := ⟨⟨kcd_X10_layTalk, kzX10, by decide +kernel⟩, kin_X10_layTalk, ksl_X10_layTalk⟩
theorem kcd_X10_layTalks : Cond.code yX10_layTalks cX10_layTalks 7 none ∈ lw_good := mem_good 1061 (by decide +kernel) (by decide +kernel)
theorem kin_X10_layTalks : Cond.instanceMethod yX10_layTalks ∈ lw_good := mem_good 1060 (by decide +kernel) (by decide +kernel)
theorem ksl_X10_layTalks : Cond.selects RX10 yX10_layTalks yX10_layTalks ∈ lw_good := mem_good 43 (by decide +kernel) (by decide +kernel)
theorem cl_X10_layTalks : ClV yX10_layTalks cX10_layTalks 7 none 1 := ⟨⟨kcd_X10_layTalks, kzX10, by decide +kernel⟩, kin_X10_layTalks, ksl_X10_layTalks⟩
theorem kcd_X10_stayOf : Cond.code yX10_stayOf cX10_stayOf 4 (some .int) ∈ lw_good := mem_good 1065 (by decide +kernel) (by decide +kernel)
theorem kin_X10_stayOf : Cond.instanceMethod yX10_stayOf ∈ lw_good := mem_good 1064 (by decide +kernel) (by decide +kernel)
theorem ksl_X10_stayOf : Cond.selects RX10 yX10_stayOf yX10_stayOf ∈ lw_good := mem_good 44 (by decide +kernel) (by decide +kernel)
theorem cl_X10_stayOf : ClV yX10_stayOf cX10_stayOf 4 (some .int) 2 := ⟨⟨kcd_X10_stayOf, kzX10, by decide +kernel⟩, kin_X10_stayOf, ksl_X10_stayOf⟩
theorem kcd_X10_bits : Cond.code yX10_bits cX10_bits 3 (some .int) ∈ lw_good := mem_good 1068 (by decide +kernel) (by decide +kernel)
theorem kst_X10_bits : Cond.static yX10_bits ∈ lw_good := mem_good 1067 (by decide +kernel) (by decide +kernel)
theorem cl_X10_bits : ClS yX10_bits cX10_bits 3 (some .int) 1 := ⟨⟨kcd_X10_bits, kzX10, by decide +kernel⟩, kst_X10_bits⟩
theorem kcd_X10_payFor : Cond.code yX10_payFor cX10_payFor 2 (some .int) ∈ lw_good := mem_good 1072 (by decide +kernel) (by decide +kernel)
theorem kin_X10_payFor : Cond.instanceMethod yX10_payFor ∈ lw_good := mem_good 1071 (by decide +kernel) (by decide +kernel)
theorem ksl_X10_payFor : Cond.selects RX10 yX10_payFor yX10_payFor ∈ lw_good := mem_good 45 (by decide +kernel) (by decide +kernel)
theorem cl_X10_payFor : ClV yX10_payFor cX10_payFor 2 (some .int) 1 := ⟨⟨kcd_X10_payFor, kzX10, by decide +kernel⟩, kin_X10_payFor, ksl_X10_payFor⟩
theorem kcd_X10_matter : Cond.code yX10_matter cX10_matter 3 (some .int) ∈ lw_good := mem_good 1076 (by decide +kernel) (by decide +kernel)
theorem kin_X10_matter : Cond.instanceMethod yX10_matter ∈ lw_good := mem_good 1074 (by decide +kernel) (by decide +kernel)
theorem ksl_X10_matter : Cond.selects RX10 yX10_matter yX10_matter ∈ lw_good := mem_good 1075 (by decide +kernel) (by decide +kernel)
theorem cl_X10_matter : ClV yX10_matter cX10_matter 3 (some .int) 2 := ⟨⟨kcd_X10_matter, kzX10, by decide +kernel⟩, kin_X10_matter, ksl_X10_matter⟩
theorem kcd_X10_isMatter : Cond.code yX10_isMatter cX10_isMatter 2 (some .boolean) ∈ lw_good := mem_good 1080 (by decide +kernel) (by decide +kernel)
theorem kin_X10_isMatter : Cond.instanceMethod yX10_isMatter ∈ lw_good := mem_good 1079 (by decide +kernel) (by decide +kernel)
theorem ksl_X10_isMatter : Cond.selects RX10 yX10_isMatter yX10_isMatter ∈ lw_good := mem_good 46 (by decide +kernel) (by decide +kernel)
theorem cl_X10_isMatter : ClV yX10_isMatter cX10_isMatter 2 (some .boolean) 1 := ⟨⟨kcd_X10_isMatter, kzX10, by decide +kernel⟩, kin_X10_isMatter, ksl_X10_isMatter⟩
theorem kcd_X10_leadsFrom : Cond.code yX10_leadsFrom cX10_leadsFrom 4 (some .int) ∈ lw_good := mem_good 1085 (by decide +kernel) (by decide +kernel)
theorem kin_X10_leadsFrom : Cond.instanceMethod yX10_leadsFrom ∈ lw_good := mem_good 1084 (by decide +kernel) (by decide +kernel)
theorem ksl_X10_leadsFrom : Cond.selects RX10 yX10_leadsFrom yX10_leadsFrom ∈ lw_good := mem_good 47 (by decide +kernel) (by decide +kernel)
theorem cl_X10_leadsFrom : ClV yX10_leadsFrom cX10_leadsFrom 4 (some .int) 1 := ⟨⟨kcd_X10_leadsFrom, kzX10, by decide +kernel⟩, kin_X10_leadsFrom, ksl_X10_leadsFrom⟩
theorem kcd_X10_onward : Cond.code yX10_onward cX10_onward 4 (some .int) ∈ lw_good := mem_good 1089 (by decide +kernel) (by decide +kernel)
theorem kin_X10_onward : Cond.instanceMethod yX10_onward ∈ lw_good := mem_good 1088 (by decide +kernel) (by decide +kernel)
theorem ksl_X10_onward : Cond.selects RX10 yX10_onward yX10_onward ∈ lw_good := mem_good 48 (by decide +kernel) (by decide +kernel)
theorem cl_X10_onward : ClV yX10_onward cX10_onward 4 (some .int) 1 := ⟨⟨kcd_X10_onward, kzX10, by decide +kernel⟩, kin_X10_onward, ksl_X10_onward⟩
theorem kcd_X10_roundOf : Cond.code yX10_roundOf cX10_roundOf 4 (some .int) ∈ lw_good := mem_good 1093 (by decide +kernel) (by decide +kernel)
theorem kin_X10_roundOf : Cond.instanceMethod yX10_roundOf ∈ lw_good := mem_good 1092 (by decide +kernel) (by decide +kernel)
theorem ksl_X10_roundOf : Cond.selects RX10 yX10_roundOf yX10_roundOf ∈ lw_good := mem_good 49 (by decide +kernel) (by decide +kernel)
theorem cl_X10_roundOf : ClV yX10_roundOf cX10_roundOf 4 (some .int) 1 := ⟨⟨kcd_X10_roundOf, kzX10, by decide +kernel⟩, kin_X10_roundOf, ksl_X10_roundOf⟩
theorem kcd_X10_traveller : Cond.code yX10_traveller cX10_traveller 3 (some .int) ∈ lw_good := mem_good 1097 (by decide +kernel) (by decide +kernel)
theorem kin_X10_traveller : Cond.instanceMethod yX10_traveller ∈ lw_good := mem_good 1095 (by decide +kernel) (by decide +kernel)
theorem ksl_X10_traveller : Cond.selects RX10 yX10_traveller yX10_traveller ∈ lw_good := mem_good 1096 (by decide +kernel) (by decide +kernel)
theorem cl_X10_traveller : ClV yX10_traveller cX10_traveller 3 (some .int) 2 := ⟨⟨kcd_X10_traveller, kzX10, by decide +kernel⟩, kin_X10_traveller, ksl_X10_traveller⟩
theorem kcd_X10_isTraveller : Cond.code yX10_isTraveller cX10_isTraveller 2 (some .boolean) ∈ lw_good := mem_good 1101 (by decide +kernel) (by decide +kernel)
theorem kin_X10_isTraveller : Cond.instanceMethod yX10_isTraveller ∈ lw_good := mem_good 1100 (by decide +kernel) (by decide +kernel)
theorem ksl_X10_isTraveller : Cond.selects RX10 yX10_isTraveller yX10_isTraveller ∈ lw_good := mem_good 50 (by decide +kernel) (by decide +kernel)
theorem cl_X10_isTraveller : ClV yX10_isTraveller cX10_isTraveller 2 (some .boolean) 1 := ⟨⟨kcd_X10_isTraveller, kzX10, by decide +kernel⟩, kin_X10_isTraveller, ksl_X10_isTraveller⟩
theorem kcd_X10_limit : Cond.code yX10_limit cX10_limit 2 (some .int) ∈ lw_good := mem_good 1105 (by decide +kernel) (by decide +kernel)
theorem kin_X10_limit : Cond.instanceMethod yX10_limit ∈ lw_good := mem_good 1104 (by decide +kernel) (by decide +kernel)
theorem ksl_X10_limit : Cond.selects RX10 yX10_limit yX10_limit ∈ lw_good := mem_good 51 (by decide +kernel) (by decide +kernel)
theorem cl_X10_limit : ClV yX10_limit cX10_limit 2 (some .int) 1 := ⟨⟨kcd_X10_limit, kzX10, by decide +kernel⟩, kin_X10_limit, ksl_X10_limit⟩
theorem kcd_X10_favourite : Cond.code yX10_favourite cX10_favourite 5 (some .int) ∈ lw_good := mem_good 1109 (by decide +kernel) (by decide +kernel)
theorem kin_X10_favourite : Cond.instanceMethod yX10_favourite ∈ lw_good := mem_good 1108 (by decide +kernel) (by decide +kernel)
theorem ksl_X10_favourite : Cond.selects RX10 yX10_favourite yX10_favourite ∈ lw_good := mem_good 52 (by decide +kernel) (by decide +kernel)
theorem cl_X10_favourite : ClV yX10_favourite cX10_favourite 5 (some .int) 1 := ⟨⟨kcd_X10_favourite, kzX10, by decide +kernel⟩, kin_X10_favourite, ksl_X10_favourite⟩
theorem kcd_X10_seat : Cond.code yX10_seat cX10_seat 2 (some .int) ∈ lw_good := mem_good 1113 (by decide +kernel) (by decide +kernel)
theorem kin_X10_seat : Cond.instanceMethod yX10_seat ∈ lw_good := mem_good 1111 (by decide +kernel) (by decide +kernel)
theorem ksl_X10_seat : Cond.selects RX10 yX10_seat yX10_seat ∈ lw_good := mem_good 1112 (by decide +kernel) (by decide +kernel)
theorem cl_X10_seat : ClV yX10_seat cX10_seat 2 (some .int) 1 := ⟨⟨kcd_X10_seat, kzX10, by decide +kernel⟩, kin_X10_seat, ksl_X10_seat⟩
theorem kcd_X10_remember : Cond.code yX10_remember cX10_remember 2 none ∈ lw_good := mem_good 1118 (by decide +kernel) (by decide +kernel)
theorem kin_X10_remember : Cond.instanceMethod yX10_remember ∈ lw_good := mem_good 1117 (by decide +kernel) (by decide +kernel)
theorem ksl_X10_remember : Cond.selects RX10 yX10_remember yX10_remember ∈ lw_good := mem_good 53 (by decide +kernel) (by decide +kernel)
theorem cl_X10_remember : ClV yX10_remember cX10_remember 2 none 0 := ⟨⟨kcd_X10_remember, kzX10, by decide +kernel⟩, kin_X10_remember, ksl_X10_remember⟩
theorem kcd_X10_seats : Cond.code yX10_seats cX10_seats 2 none ∈ lw_good := mem_good 1122 (by decide +kernel) (by decide +kernel)
theorem kin_X10_seats : Cond.instanceMethod yX10_seats ∈ lw_good := mem_good 1121 (by decide +kernel) (by decide +kernel)
theorem ksl_X10_seats : Cond.selects RX10 yX10_seats yX10_seats ∈ lw_good := mem_good 54 (by decide +kernel) (by decide +kernel)
theorem cl_X10_seats : ClV yX10_seats cX10_seats 2 none 1 := ⟨⟨kcd_X10_seats, kzX10, by decide +kernel⟩, kin_X10_seats, ksl_X10_seats⟩
theorem kcd_X10_tell : Cond.code yX10_tell cX10_tell 2 (some .int) ∈ lw_good := mem_good 1126 (by decide +kernel) (by decide +kernel)
theorem kin_X10_tell : Cond.instanceMethod yX10_tell ∈ lw_good := mem_good 1124 (by decide +kernel) (by decide +kernel)
theorem ksl_X10_tell : Cond.selects RX10 yX10_tell yX10_tell ∈ lw_good := mem_good 1125 (by decide +kernel) (by decide +kernel)
theorem cl_X10_tell : ClV yX10_tell cX10_tell 2 (some .int) 1 := ⟨⟨kcd_X10_tell, kzX10, by decide +kernel⟩, kin_X10_tell, ksl_X10_tell⟩
theorem kcd_X10_isTellable : Cond.code yX10_isTellable cX10_isTellable 2 (some .boolean) ∈ lw_good := mem_good 1130 (by decide +kernel) (by decide +kernel)
theorem kin_X10_isTellable : Cond.instanceMethod yX10_isTellable ∈ lw_good := mem_good 1129 (by decide +kernel) (by decide +kernel)
theorem ksl_X10_isTellable : Cond.selects RX10 yX10_isTellable yX10_isTellable ∈ lw_good := mem_good 55 (by decide +kernel) (by decide +kernel)
theorem cl_X10_isTellable : ClV yX10_isTellable cX10_isTellable 2 (some .boolean) 1 := ⟨⟨kcd_X10_isTellable, kzX10, by decide +kernel⟩, kin_X10_isTellable, ksl_X10_isTellable⟩
theorem kcd_X10_tells : Cond.code yX10_tells cX10_tells 4 (some .int) ∈ lw_good := mem_good 1134 (by decide +kernel) (by decide +kernel)
theorem kin_X10_tells : Cond.instanceMethod yX10_tells ∈ lw_good := mem_good 1133 (by decide +kernel) (by decide +kernel)
theorem ksl_X10_tells : Cond.selects RX10 yX10_tells yX10_tells ∈ lw_good := mem_good 56 (by decide +kernel) (by decide +kernel)
theorem cl_X10_tells : ClV yX10_tells cX10_tells 4 (some .int) 1 := ⟨⟨kcd_X10_tells, kzX10, by decide +kernel⟩, kin_X10_tells, ksl_X10_tells⟩
theorem kcd_X10_rises : Cond.code yX10_rises cX10_rises 4 (some .int) ∈ lw_good := mem_good 1138 (by decide +kernel) (by decide +kernel)
theorem kin_X10_rises : Cond.instanceMethod yX10_rises ∈ lw_good := mem_good 1137 (by decide +kernel) (by decide +kernel)
theorem ksl_X10_rises : Cond.selects RX10 yX10_rises yX10_rises ∈ lw_good := mem_good 57 (by decide +kernel) (by decide +kernel)
theorem cl_X10_rises : ClV yX10_rises cX10_rises 4 (some .int) 0 := ⟨⟨kcd_X10_rises, kzX10, by decide +kernel⟩, kin_X10_rises, ksl_X10_rises⟩
theorem kcd_X10_passes : Cond.code yX10_passes cX10_passes 5 none ∈ lw_good := mem_good 1143 (by decide +kernel) (by decide +kernel)
theorem kin_X10_passes : Cond.instanceMethod yX10_passes ∈ lw_good := mem_good 1142 (by decide +kernel) (by decide +kernel)
theorem ksl_X10_passes : Cond.selects RX10 yX10_passes yX10_passes ∈ lw_good := mem_good 58 (by decide +kernel) (by decide +kernel)
theorem cl_X10_passes : ClV yX10_passes cX10_passes 5 none 1 := ⟨⟨kcd_X10_passes, kzX10, by decide +kernel⟩, kin_X10_passes, ksl_X10_passes⟩
theorem kcd_X10_rise : Cond.code yX10_rise cX10_rise 1 (some .int) ∈ lw_good := mem_good 1147 (by decide +kernel) (by decide +kernel)
theorem kin_X10_rise : Cond.instanceMethod yX10_rise ∈ lw_good := mem_good 1145 (by decide +kernel) (by decide +kernel)
theorem ksl_X10_rise : Cond.selects RX10 yX10_rise yX10_rise ∈ lw_good := mem_good 1146 (by decide +kernel) (by decide +kernel)
theorem cl_X10_rise : ClV yX10_rise cX10_rise 1 (some .int) 0 := ⟨⟨kcd_X10_rise, kzX10, by decide +kernel⟩, kin_X10_rise, ksl_X10_rise⟩
theorem kcd_X10_learn : Cond.code yX10_learn cX10_learn 2 (some .int) ∈ lw_good := mem_good 1151 (by decide +kernel) (by decide +kernel)
theorem kin_X10_learn : Cond.instanceMethod yX10_learn ∈ lw_good := mem_good 1149 (by decide +kernel) (by decide +kernel)
theorem ksl_X10_learn : Cond.selects RX10 yX10_learn yX10_learn ∈ lw_good := mem_good 1150 (by decide +kernel) (by decide +kernel)
theorem cl_X10_learn : ClV yX10_learn cX10_learn 2 (some .int) 1 := ⟨⟨kcd_X10_learn, kzX10, by decide +kernel⟩, kin_X10_learn, ksl_X10_learn⟩
theorem kcd_X10_minute : Cond.code yX10_minute cX10_minute 2 (some .int) ∈ lw_good := mem_good 1155 (by decide +kernel) (by decide +kernel)
theorem kin_X10_minute : Cond.instanceMethod yX10_minute ∈ lw_good := mem_good 1153 (by decide +kernel) (by decide +kernel)
theorem ksl_X10_minute : Cond.selects RX10 yX10_minute yX10_minute ∈ lw_good := mem_good 1154 (by decide +kernel) (by decide +kernel)
theorem cl_X10_minute : ClV yX10_minute cX10_minute 2 (some .int) 1 := ⟨⟨kcd_X10_minute, kzX10, by decide +kernel⟩, kin_X10_minute, ksl_X10_minute⟩
theorem kcd_X10_isBridge : Cond.code yX10_isBridge cX10_isBridge 1 (some .boolean) ∈ lw_good := mem_good 1159 (by decide +kernel) (by decide +kernel)
theorem kin_X10_isBridge : Cond.instanceMethod yX10_isBridge ∈ lw_good := mem_good 1158 (by decide +kernel) (by decide +kernel)
theorem ksl_X10_isBridge : Cond.selects RX10 yX10_isBridge yX10_isBridge ∈ lw_good := mem_good 59 (by decide +kernel) (by decide +kernel)
theorem cl_X10_isBridge : ClV yX10_isBridge cX10_isBridge 1 (some .boolean) 0 := ⟨⟨kcd_X10_isBridge, kzX10, by decide +kernel⟩, kin_X10_isBridge, ksl_X10_isBridge⟩
theorem kcd_X10_anew : Cond.code yX10_anew cX10_anew 2 (some .int) ∈ lw_good := mem_good 1164 (by decide +kernel) (by decide +kernel)
theorem kin_X10_anew : Cond.instanceMethod yX10_anew ∈ lw_good := mem_good 1162 (by decide +kernel) (by decide +kernel)
theorem ksl_X10_anew : Cond.selects RX10 yX10_anew yX10_anew ∈ lw_good := mem_good 1163 (by decide +kernel) (by decide +kernel)
theorem cl_X10_anew : ClV yX10_anew cX10_anew 2 (some .int) 0 := ⟨⟨kcd_X10_anew, kzX10, by decide +kernel⟩, kin_X10_anew, ksl_X10_anew⟩
theorem kcd_X10_drift : Cond.code yX10_drift cX10_drift 3 (some .int) ∈ lw_good := mem_good 1168 (by decide +kernel) (by decide +kernel)
theorem kin_X10_drift : Cond.instanceMethod yX10_drift ∈ lw_good := mem_good 1166 (by decide +kernel) (by decide +kernel)
theorem ksl_X10_drift : Cond.selects RX10 yX10_drift yX10_drift ∈ lw_good := mem_good 1167 (by decide +kernel) (by decide +kernel)
theorem cl_X10_drift : ClV yX10_drift cX10_drift 3 (some .int) 1 := ⟨⟨kcd_X10_drift, kzX10, by decide +kernel⟩, kin_X10_drift, ksl_X10_drift⟩
theorem kcd_X10_draws : Cond.code yX10_draws cX10_draws 2 none ∈ lw_good := mem_good 1172 (by decide +kernel) (by decide +kernel)
theorem kin_X10_draws : Cond.instanceMethod yX10_draws ∈ lw_good := mem_good 1171 (by decide +kernel) (by decide +kernel)
theorem ksl_X10_draws : Cond.selects RX10 yX10_draws yX10_draws ∈ lw_good := mem_good 60 (by decide +kernel) (by decide +kernel)
theorem cl_X10_draws : ClV yX10_draws cX10_draws 2 none 0 := ⟨⟨kcd_X10_draws, kzX10, by decide +kernel⟩, kin_X10_draws, ksl_X10_draws⟩
theorem kcd_X10_draw : Cond.code yX10_draw cX10_draw 2 (some .int) ∈ lw_good := mem_good 1176 (by decide +kernel) (by decide +kernel)
theorem kin_X10_draw : Cond.instanceMethod yX10_draw ∈ lw_good := mem_good 1175 (by decide +kernel) (by decide +kernel)
theorem ksl_X10_draw : Cond.selects RX10 yX10_draw yX10_draw ∈ lw_good := mem_good 61 (by decide +kernel) (by decide +kernel)
theorem cl_X10_draw : ClV yX10_draw cX10_draw 2 (some .int) 1 := ⟨⟨kcd_X10_draw, kzX10, by decide +kernel⟩, kin_X10_draw, ksl_X10_draw⟩
theorem kcd_X10_undo : Cond.code yX10_undo cX10_undo 3 (some .int) ∈ lw_good := mem_good 1184 (by decide +kernel) (by decide +kernel)
theorem kin_X10_undo : Cond.instanceMethod yX10_undo ∈ lw_good := mem_good 1182 (by decide +kernel) (by decide +kernel)
theorem ksl_X10_undo : Cond.selects RX10 yX10_undo yX10_undo ∈ lw_good := mem_good 1183 (by decide +kernel) (by decide +kernel)
theorem cl_X10_undo : ClV yX10_undo cX10_undo 3 (some .int) 1 := ⟨⟨kcd_X10_undo, kzX10, by decide +kernel⟩, kin_X10_undo, ksl_X10_undo⟩
theorem kcd_X10_stay : Cond.code yX10_stay cX10_stay 3 (some .int) ∈ lw_good := mem_good 1188 (by decide +kernel) (by decide +kernel)
theorem kin_X10_stay : Cond.instanceMethod yX10_stay ∈ lw_good := mem_good 1186 (by decide +kernel) (by decide +kernel)
theorem ksl_X10_stay : Cond.selects RX10 yX10_stay yX10_stay ∈ lw_good := mem_good 1187 (by decide +kernel) (by decide +kernel)
theorem cl_X10_stay : ClV yX10_stay cX10_stay 3 (some .int) 2 := ⟨⟨kcd_X10_stay, kzX10, by decide +kernel⟩, kin_X10_stay, ksl_X10_stay⟩
theorem kcd_X10_talk : Cond.code yX10_talk cX10_talk 3 (some .int) ∈ lw_good := mem_good 1192 (by decide +kernel) (by decide +kernel)
theorem kin_X10_talk : Cond.instanceMethod yX10_talk ∈ lw_good := mem_good 1190 (by decide +kernel) (by decide +kernel)
theorem ksl_X10_talk : Cond.selects RX10 yX10_talk yX10_talk ∈ lw_good := mem_good 1191 (by decide +kernel) (by decide +kernel)
theorem cl_X10_talk : ClV yX10_talk cX10_talk 3 (some .int) 2 := ⟨⟨kcd_X10_talk, kzX10, by decide +kernel⟩, kin_X10_talk, ksl_X10_talk⟩
theorem kcd_X10_queue : Cond.code yX10_queue cX10_queue 8 (some .int) ∈ lw_good := mem_good 1196 (by decide +kernel) (by decide +kernel)
theorem kin_X10_queue : Cond.instanceMethod yX10_queue ∈ lw_good := mem_good 1194 (by decide +kernel) (by decide +kernel)
theorem ksl_X10_queue : Cond.selects RX10 yX10_queue yX10_queue ∈ lw_good := mem_good 1195 (by decide +kernel) (by decide +kernel)
theorem cl_X10_queue : ClV yX10_queue cX10_queue 8 (some .int) 1 := ⟨⟨kcd_X10_queue, kzX10, by decide +kernel⟩, kin_X10_queue, ksl_X10_queue⟩
theorem kcd_X10_paidBy : Cond.code yX10_paidBy cX10_paidBy 10 (some .int) ∈ lw_good := mem_good 1200 (by decide +kernel) (by decide +kernel)
theorem kin_X10_paidBy : Cond.instanceMethod yX10_paidBy ∈ lw_good := mem_good 1199 (by decide +kernel) (by decide +kernel)
theorem ksl_X10_paidBy : Cond.selects RX10 yX10_paidBy yX10_paidBy ∈ lw_good := mem_good 62 (by decide +kernel) (by decide +kernel)
theorem cl_X10_paidBy : ClV yX10_paidBy cX10_paidBy 10 (some .int) 2 := ⟨⟨kcd_X10_paidBy, kzX10, by decide +kernel⟩, kin_X10_paidBy, ksl_X10_paidBy⟩
theorem kcd_X10_nextFigures : Cond.code yX10_nextFigures cX10_nextFigures 4 (some .int) ∈ lw_good := mem_good 1203 (by decide +kernel) (by decide +kernel)
theorem kst_X10_nextFigures : Cond.static yX10_nextFigures ∈ lw_good := mem_good 1202 (by decide +kernel) (by decide +kernel)
theorem cl_X10_nextFigures : ClS yX10_nextFigures cX10_nextFigures 4 (some .int) 2 := ⟨⟨kcd_X10_nextFigures, kzX10, by decide +kernel⟩, kst_X10_nextFigures⟩
theorem kcd_X10_dry : Cond.code yX10_dry cX10_dry 6 (some .int) ∈ lw_good := mem_good 1207 (by decide +kernel) (by decide +kernel)
theorem kin_X10_dry : Cond.instanceMethod yX10_dry ∈ lw_good := mem_good 1205 (by decide +kernel) (by decide +kernel)
theorem ksl_X10_dry : Cond.selects RX10 yX10_dry yX10_dry ∈ lw_good := mem_good 1206 (by decide +kernel) (by decide +kernel)
theorem cl_X10_dry : ClV yX10_dry cX10_dry 6 (some .int) 2 := ⟨⟨kcd_X10_dry, kzX10, by decide +kernel⟩, kin_X10_dry, ksl_X10_dry⟩
theorem kcd_X10_stayed : Cond.code yX10_stayed cX10_stayed 3 (some .int) ∈ lw_good := mem_good 1213 (by decide +kernel) (by decide +kernel)
theorem kin_X10_stayed : Cond.instanceMethod yX10_stayed ∈ lw_good := mem_good 1211 (by decide +kernel) (by decide +kernel)
theorem ksl_X10_stayed : Cond.selects RX10 yX10_stayed yX10_stayed ∈ lw_good := mem_good 1212 (by decide +kernel) (by decide +kernel)
theorem cl_X10_stayed : ClV yX10_stayed cX10_stayed 3 (some .int) 2 := ⟨⟨kcd_X10_stayed, kzX10, by decide +kernel⟩, kin_X10_stayed, ksl_X10_stayed⟩
theorem kcd_X10_couldBe : Cond.code yX10_couldBe cX10_couldBe 5 (some .int) ∈ lw_good := mem_good 1217 (by decide +kernel) (by decide +kernel)
theorem kin_X10_couldBe : Cond.instanceMethod yX10_couldBe ∈ lw_good := mem_good 1215 (by decide +kernel) (by decide +kernel)
theorem ksl_X10_couldBe : Cond.selects RX10 yX10_couldBe yX10_couldBe ∈ lw_good := mem_good 1216 (by decide +kernel) (by decide +kernel)
theorem cl_X10_couldBe : ClV yX10_couldBe cX10_couldBe 5 (some .int) 0 := ⟨⟨kcd_X10_couldBe, kzX10, by decide +kernel⟩, kin_X10_couldBe, ksl_X10_couldBe⟩
theorem kcd_X10_ask : Cond.code yX10_ask cX10_ask 6 (some .int) ∈ lw_good := mem_good 1221 (by decide +kernel) (by decide +kernel)
theorem kin_X10_ask : Cond.instanceMethod yX10_ask ∈ lw_good := mem_good 1219 (by decide +kernel) (by decide +kernel)
theorem ksl_X10_ask : Cond.selects RX10 yX10_ask yX10_ask ∈ lw_good := mem_good 1220 (by decide +kernel) (by decide +kernel)
theorem cl_X10_ask : ClV yX10_ask cX10_ask 6 (some .int) 0 := ⟨⟨kcd_X10_ask, kzX10, by decide +kernel⟩, kin_X10_ask, ksl_X10_ask⟩
theorem kcd_X10_alike : Cond.code yX10_alike cX10_alike 7 (some .int) ∈ lw_good := mem_good 1226 (by decide +kernel) (by decide +kernel)
theorem kin_X10_alike : Cond.instanceMethod yX10_alike ∈ lw_good := mem_good 1225 (by decide +kernel) (by decide +kernel)
theorem ksl_X10_alike : Cond.selects RX10 yX10_alike yX10_alike ∈ lw_good := mem_good 63 (by decide +kernel) (by decide +kernel)
theorem cl_X10_alike : ClV yX10_alike cX10_alike 7 (some .int) 2 := ⟨⟨kcd_X10_alike, kzX10, by decide +kernel⟩, kin_X10_alike, ksl_X10_alike⟩
theorem kcd_X10_write : Cond.code yX10_write cX10_write 3 (some .int) ∈ lw_good := mem_good 1230 (by decide +kernel) (by decide +kernel)
theorem kin_X10_write : Cond.instanceMethod yX10_write ∈ lw_good := mem_good 1228 (by decide +kernel) (by decide +kernel)
theorem ksl_X10_write : Cond.selects RX10 yX10_write yX10_write ∈ lw_good := mem_good 1229 (by decide +kernel) (by decide +kernel)
theorem cl_X10_write : ClV yX10_write cX10_write 3 (some .int) 2 := ⟨⟨kcd_X10_write, kzX10, by decide +kernel⟩, kin_X10_write, ksl_X10_write⟩
theorem kcd_X10_judge : Cond.code yX10_judge cX10_judge 2 (some .int) ∈ lw_good := mem_good 1234 (by decide +kernel) (by decide +kernel)
theorem kin_X10_judge : Cond.instanceMethod yX10_judge ∈ lw_good := mem_good 1232 (by decide +kernel) (by decide +kernel)
theorem ksl_X10_judge : Cond.selects RX10 yX10_judge yX10_judge ∈ lw_good := mem_good 1233 (by decide +kernel) (by decide +kernel)
theorem cl_X10_judge : ClV yX10_judge cX10_judge 2 (some .int) 0 := ⟨⟨kcd_X10_judge, kzX10, by decide +kernel⟩, kin_X10_judge, ksl_X10_judge⟩
theorem kcd_X10_tear : Cond.code yX10_tear cX10_tear 2 (some .int) ∈ lw_good := mem_good 1238 (by decide +kernel) (by decide +kernel)
theorem kin_X10_tear : Cond.instanceMethod yX10_tear ∈ lw_good := mem_good 1236 (by decide +kernel) (by decide +kernel)
theorem ksl_X10_tear : Cond.selects RX10 yX10_tear yX10_tear ∈ lw_good := mem_good 1237 (by decide +kernel) (by decide +kernel)
theorem cl_X10_tear : ClV yX10_tear cX10_tear 2 (some .int) 0 := ⟨⟨kcd_X10_tear, kzX10, by decide +kernel⟩, kin_X10_tear, ksl_X10_tear⟩
theorem kcd_X10_seed : Cond.code yX10_seed cX10_seed 3 (some .int) ∈ lw_good := mem_good 1242 (by decide +kernel) (by decide +kernel)
theorem kin_X10_seed : Cond.instanceMethod yX10_seed ∈ lw_good := mem_good 1240 (by decide +kernel) (by decide +kernel)
theorem ksl_X10_seed : Cond.selects RX10 yX10_seed yX10_seed ∈ lw_good := mem_good 1241 (by decide +kernel) (by decide +kernel)
theorem cl_X10_seed : ClV yX10_seed cX10_seed 3 (some .int) 1 := ⟨⟨kcd_X10_seed, kzX10, by decide +kernel⟩, kin_X10_seed, ksl_X10_seed⟩
theorem kcd_X10_keep : Cond.code yX10_keep cX10_keep 3 (some .int) ∈ lw_good := mem_good 1246 (by decide +kernel) (by decide +kernel)
theorem kin_X10_keep : Cond.instanceMethod yX10_keep ∈ lw_good := mem_good 1244 (by decide +kernel) (by decide +kernel)
theorem ksl_X10_keep : Cond.selects RX10 yX10_keep yX10_keep ∈ lw_good := mem_good 1245 (by decide +kernel) (by decide +kernel)
theorem cl_X10_keep : ClV yX10_keep cX10_keep 3 (some .int) 1 := ⟨⟨kcd_X10_keep, kzX10, by decide +kernel⟩, kin_X10_keep, ksl_X10_keep⟩
theorem kcd_X10_goBack : Cond.code yX10_goBack cX10_goBack 3 (some .int) ∈ lw_good := mem_good 1250 (by decide +kernel) (by decide +kernel)
theorem kin_X10_goBack : Cond.instanceMethod yX10_goBack ∈ lw_good := mem_good 1248 (by decide +kernel) (by decide +kernel)
theorem ksl_X10_goBack : Cond.selects RX10 yX10_goBack yX10_goBack ∈ lw_good := mem_good 1249 (by decide +kernel) (by decide +kernel)
theorem cl_X10_goBack : ClV yX10_goBack cX10_goBack 3 (some .int) 1 := ⟨⟨kcd_X10_goBack, kzX10, by decide +kernel⟩, kin_X10_goBack, ksl_X10_goBack⟩
end
section
section FR
variable {p : Program} {l : Launch} {e : Env} {R : Room} {s : State} {m : MethodId} {args : Array Value} {below : List Frame} {meth : Method} {c : Code} {G : GT} {z nL : Nat} {Z : State → Prop} {pc : Nat} {lo : List (Nat × Value)} {st : List Value} {u u2 : HpT} {n kc ks : Nat} {cc : ByteArray} {a : Nat} {fs fs2 : List Value}
theorem gfX7_9 {v : Value} (C : Cx p s m args c G RX7 cc nL z) (d : decode cc pc = .ok (.getfield 9, 3)) (hu : u a = some (.inr (6, fs))) (hv : fs[0]? = some v) (kk : Xw p l e R s m args below meth c G z nL Z (pc + 3) lo (v :: st) u n kc ks) : Xw p l e R s m args below meth c G z nL Z pc lo (.ref (z + a) :: st) u n kc ks := x_get C gdX7 (ci := 6) rfl 0 (by decide) kfX7_9 rfl hu hv d kk
theorem pfX7_9 {x : Nat} (C : Cx p s m args c G RX7 cc nL z) (d : decode cc pc = .ok (.putfield 9, 3)) (hi : meth.name = "<init>") (hu : u a = some (.inr (6, fs))) (hl : 0 < fs.length) (h2 : fs.set 0 (.ref x) = fs2) (hu2 : hup u a (.inr (6, fs2)) = u2) (kk : Xw p l e R s m args below meth c G z nL Z (pc + 3) lo st u2 n kc ks) : Xw p l e R s m args below meth c G z nL Z pc lo (.ref x :: .ref (z + a) :: st) u n kc ks := by
  subst h2; subst hu2
  exact x_putF C gdX7 tyX7 tyX7_ok nmX7 (ci := 6) rfl 0 (by decide) kfX7_9 rfl rfl hi rfl rfl rfl hu hl d kk
theorem gfX7_15 {v : Value} (C : Cx p s m args c G RX7 cc nL z) (d : decode cc pc = .ok (.getfield 15, 3)) (hu : u a = some (.inr (6, fs))) (hv : fs[1]? = some v) (kk : Xw p l e R s m args below meth c G z nL Z (pc + 3) lo (v :: st) u n kc ks) : Xw p l e R s m args below meth c G z nL Z pc lo (.ref (z + a) :: st) u n kc ks := x_get C gdX7 (ci := 6) rfl 1 (by decide) kfX7_15 rfl hu hv d kk
theorem pfX7_15 {x : Int32} (C : Cx p s m args c G RX7 cc nL z) (d : decode cc pc = .ok (.putfield 15, 3)) (hu : u a = some (.inr (6, fs))) (hl : 1 < fs.length) (h2 : fs.set 1 (.int x) = fs2) (hu2 : hup u a (.inr (6, fs2)) = u2) (kk : Xw p l e R s m args below meth c G z nL Z (pc + 3) lo st u2 n kc ks) : Xw p l e R s m args below meth c G z nL Z pc lo (.int x :: .ref (z + a) :: st) u n kc ks := by
  subst h2; subst hu2
  exact x_put C gdX7 tyX7 tyX7_ok nmX7 (ci := 6) rfl 1 (by decide) kfX7_15 rfl rfl rfl rfl hu hl d kk
theorem gfX9_85 {v : Value} (C : Cx p s m args c G RX9 cc nL z) (d : decode cc pc = .ok (.getfield 85, 3)) (hu : u a = some (.inr (6, fs))) (hv : fs[1]? = some v) (kk : Xw p l e R s m args below meth c G z nL Z (pc + 3) lo (v :: st) u n kc ks) : Xw p l e R s m args below meth c G z nL Z pc lo (.ref (z + a) :: st) u n kc ks := x_get C gdX7 (ci := 6) rfl 1 (by decide) kfX9_85 rfl hu hv d kk
theorem pfX9_85 {x : Int32} (C : Cx p s m args c G RX9 cc nL z) (d : decode cc pc = .ok (.putfield 85, 3)) (hu : u a = some (.inr (6, fs))) (hl : 1 < fs.length) (h2 : fs.set 1 (.int x) = fs2) (hu2 : hup u a (.inr (6, fs2)) = u2) (kk : Xw p l e R s m args below meth c G z nL Z (pc + 3) lo st u2 n kc ks) : Xw p l e R s m args below meth c G z nL Z pc lo (.int x :: .ref (z + a) :: st) u n kc ks := by
  subst h2; subst hu2
  exact x_put C gdX7 tyX7 tyX7_ok nmX7 (ci := 6) rfl 1 (by decide) kfX9_85 rfl rfl rfl rfl hu hl d kk
theorem gfX7_19 {v : Value} (C : Cx p s m args c G RX7 cc nL z) (d : decode cc pc = .ok (.getfield 19, 3)) (hu : u a = some (.inr (6, fs))) (hv : fs[2]? = some v) (kk : Xw p l e R s m args below meth c G z nL Z (pc + 3) lo (v :: st) u n kc ks) : Xw p l e R s m args below meth c G z nL Z pc lo (.ref (z + a) :: st) u n kc ks := x_get C gdX7 (ci := 6) rfl 2 (by decide) kfX7_19 rfl hu hv d kk
theorem pfX7_19 {x : Int32} (C : Cx p s m args c G RX7 cc nL z) (d : decode cc pc = .ok (.putfield 19, 3)) (hu : u a = some (.inr (6, fs))) (hl : 2 < fs.length) (h2 : fs.set 2 (.int x) = fs2) (hu2 : hup u a (.inr (6, fs2)) = u2) (kk : Xw p l e R s m args below meth c G z nL Z (pc + 3) lo st u2 n kc ks) : Xw p l e R s m args below meth c G z nL Z pc lo (.int x :: .ref (z + a) :: st) u n kc ks := by
  subst h2; subst hu2
  exact x_put C gdX7 tyX7 tyX7_ok nmX7 (ci := 6) rfl 2 (by decide) kfX7_19 rfl rfl rfl rfl hu hl d kk
theorem gfX7_22 {v : Value} (C : Cx p s m args c G RX7 cc nL z) (d : decode cc pc = .ok (.getfield 22, 3)) (hu : u a = some (.inr (6, fs))) (hv : fs[3]? = some v) (kk : Xw p l e R s m args below meth c G z nL Z (pc + 3) lo (v :: st) u n kc ks) : Xw p l e R s m args below meth c G z nL Z pc lo (.ref (z + a) :: st) u n kc ks := x_get C gdX7 (ci := 6) rfl 3 (by decide) kfX7_22 rfl hu hv d kk
theorem pfX7_22 {x : Int32} (C : Cx p s m args c G RX7 cc nL z) (d : decode cc pc = .ok (.putfield 22, 3)) (hu : u a = some (.inr (6, fs))) (hl : 3 < fs.length) (h2 : fs.set 3 (.int x) = fs2) (hu2 : hup u a (.inr (6, fs2)) = u2) (kk : Xw p l e R s m args below meth c G z nL Z (pc + 3) lo st u2 n kc ks) : Xw p l e R s m args below meth c G z nL Z pc lo (.int x :: .ref (z + a) :: st) u n kc ks := by
  subst h2; subst hu2
  exact x_put C gdX7 tyX7 tyX7_ok nmX7 (ci := 6) rfl 3 (by decide) kfX7_22 rfl rfl rfl rfl hu hl d kk
theorem gfX9_97 {v : Value} (C : Cx p s m args c G RX9 cc nL z) (d : decode cc pc = .ok (.getfield 97, 3)) (hu : u a = some (.inr (6, fs))) (hv : fs[3]? = some v) (kk : Xw p l e R s m args below meth c G z nL Z (pc + 3) lo (v :: st) u n kc ks) : Xw p l e R s m args below meth c G z nL Z pc lo (.ref (z + a) :: st) u n kc ks := x_get C gdX7 (ci := 6) rfl 3 (by decide) kfX9_97 rfl hu hv d kk
theorem pfX9_97 {x : Int32} (C : Cx p s m args c G RX9 cc nL z) (d : decode cc pc = .ok (.putfield 97, 3)) (hu : u a = some (.inr (6, fs))) (hl : 3 < fs.length) (h2 : fs.set 3 (.int x) = fs2) (hu2 : hup u a (.inr (6, fs2)) = u2) (kk : Xw p l e R s m args below meth c G z nL Z (pc + 3) lo st u2 n kc ks) : Xw p l e R s m args below meth c G z nL Z pc lo (.int x :: .ref (z + a) :: st) u n kc ks := by
  subst h2; subst hu2
  exact x_put C gdX7 tyX7 tyX7_ok nmX7 (ci := 6) rfl 3 (by decide) kfX9_97 rfl rfl rfl rfl hu hl d kk
theorem gfX7_25 {v : Value} (C : Cx p s m args c G RX7 cc nL z) (d : decode cc pc = .ok (.getfield 25, 3)) (hu : u a = some (.inr (6, fs))) (hv : fs[4]? = some v) (kk : Xw p l e R s m args below meth c G z nL Z (pc + 3) lo (v :: st) u n kc ks) : Xw p l e R s m args below meth c G z nL Z pc lo (.ref (z + a) :: st) u n kc ks := x_get C gdX7 (ci := 6) rfl 4 (by decide) kfX7_25 rfl hu hv d kk
theorem pfX7_25 {x : Int32} (C : Cx p s m args c G RX7 cc nL z) (d : decode cc pc = .ok (.putfield 25, 3)) (hu : u a = some (.inr (6, fs))) (hl : 4 < fs.length) (h2 : fs.set 4 (.int x) = fs2) (hu2 : hup u a (.inr (6, fs2)) = u2) (kk : Xw p l e R s m args below meth c G z nL Z (pc + 3) lo st u2 n kc ks) : Xw p l e R s m args below meth c G z nL Z pc lo (.int x :: .ref (z + a) :: st) u n kc ks := by
  subst h2; subst hu2
  exact x_put C gdX7 tyX7 tyX7_ok nmX7 (ci := 6) rfl 4 (by decide) kfX7_25 rfl rfl rfl rfl hu hl d kk
theorem gfX9_96 {v : Value} (C : Cx p s m args c G RX9 cc nL z) (d : decode cc pc = .ok (.getfield 96, 3)) (hu : u a = some (.inr (6, fs))) (hv : fs[4]? = some v) (kk : Xw p l e R s m args below meth c G z nL Z (pc + 3) lo (v :: st) u n kc ks) : Xw p l e R s m args below meth c G z nL Z pc lo (.ref (z + a) :: st) u n kc ks := x_get C gdX7 (ci := 6) rfl 4 (by decide) kfX9_96 rfl hu hv d kk
theorem pfX9_96 {x : Int32} (C : Cx p s m args c G RX9 cc nL z) (d : decode cc pc = .ok (.putfield 96, 3)) (hu : u a = some (.inr (6, fs))) (hl : 4 < fs.length) (h2 : fs.set 4 (.int x) = fs2) (hu2 : hup u a (.inr (6, fs2)) = u2) (kk : Xw p l e R s m args below meth c G z nL Z (pc + 3) lo st u2 n kc ks) : Xw p l e R s m args below meth c G z nL Z pc lo (.int x :: .ref (z + a) :: st) u n kc ks := by
  subst h2; subst hu2
  exact x_put C gdX7 tyX7 tyX7_ok nmX7 (ci := 6) rfl 4 (by decide) kfX9_96 rfl rfl rfl rfl hu hl d kk
theorem gfX3_9 {v : Value} (C : Cx p s m args c G RX3 cc nL z) (d : decode cc pc = .ok (.getfield 9, 3)) (hu : u a = some (.inr (2, fs))) (hv : fs[0]? = some v) (kk : Xw p l e R s m args below meth c G z nL Z (pc + 3) lo (v :: st) u n kc ks) : Xw p l e R s m args below meth c G z nL Z pc lo (.ref (z + a) :: st) u n kc ks := x_get C gdX3 (ci := 2) rfl 0 (by decide) kfX3_9 rfl hu hv d kk
theorem pfX3_9 {x : Int32} (C : Cx p s m args c G RX3 cc nL z) (d : decode cc pc = .ok (.putfield 9, 3)) (hu : u a = some (.inr (2, fs))) (hl : 0 < fs.length) (h2 : fs.set 0 (.int x) = fs2) (hu2 : hup u a (.inr (2, fs2)) = u2) (kk : Xw p l e R s m args below meth c G z nL Z (pc + 3) lo st u2 n kc ks) : Xw p l e R s m args below meth c G z nL Z pc lo (.int x :: .ref (z + a) :: st) u n kc ks := by
  subst h2; subst hu2
  exact x_put C gdX3 tyX3 tyX3_ok nmX3 (ci := 2) rfl 0 (by decide) kfX3_9 rfl rfl rfl rfl hu hl d kk
theorem gfX9_149 {v : Value} (C : Cx p s m args c G RX9 cc nL z) (d : decode cc pc = .ok (.getfield 149, 3)) (hu : u a = some (.inr (2, fs))) (hv : fs[0]? = some v) (kk : Xw p l e R s m args below meth c G z nL Z (pc + 3) lo (v :: st) u n kc ks) : Xw p l e R s m args below meth c G z nL Z pc lo (.ref (z + a) :: st) u n kc ks := x_get C gdX3 (ci := 2) rfl 0 (by decide) kfX9_149 rfl hu hv d kk
theorem pfX9_149 {x : Int32} (C : Cx p s m args c G RX9 cc nL z) (d : decode cc pc = .ok (.putfield 149, 3)) (hu : u a = some (.inr (2, fs))) (hl : 0 < fs.length) (h2 : fs.set 0 (.int x) = fs2) (hu2 : hup u a (.inr (2, fs2)) = u2) (kk : Xw p l e R s m args below meth c G z nL Z (pc + 3) lo st u2 n kc ks) : Xw p l e R s m args below meth c G z nL Z pc lo (.int x :: .ref (z + a) :: st) u n kc ks := by
  subst h2; subst hu2
  exact x_put C gdX3 tyX3 tyX3_ok nmX3 (ci := 2) rfl 0 (by decide) kfX9_149 rfl rfl rfl rfl hu hl d kk
theorem gfX3_15 {v : Value} (C : Cx p s m args c G RX3 cc nL z) (d : decode cc pc = .ok (.getfield 15, 3)) (hu : u a = some (.inr (2, fs))) (hv : fs[1]? = some v) (kk : Xw p l e R s m args below meth c G z nL Z (pc + 3) lo (v :: st) u n kc ks) : Xw p l e R s m args below meth c G z nL Z pc lo (.ref (z + a) :: st) u n kc ks := x_get C gdX3 (ci := 2) rfl 1 (by decide) kfX3_15 rfl hu hv d kk
theorem pfX3_15 {x : Int32} (C : Cx p s m args c G RX3 cc nL z) (d : decode cc pc = .ok (.putfield 15, 3)) (hu : u a = some (.inr (2, fs))) (hl : 1 < fs.length) (h2 : fs.set 1 (.int x) = fs2) (hu2 : hup u a (.inr (2, fs2)) = u2) (kk : Xw p l e R s m args below meth c G z nL Z (pc + 3) lo st u2 n kc ks) : Xw p l e R s m args below meth c G z nL Z pc lo (.int x :: .ref (z + a) :: st) u n kc ks := by
  subst h2; subst hu2
  exact x_put C gdX3 tyX3 tyX3_ok nmX3 (ci := 2) rfl 1 (by decide) kfX3_15 rfl rfl rfl rfl hu hl d kk
theorem gfX9_152 {v : Value} (C : Cx p s m args c G RX9 cc nL z) (d : decode cc pc = .ok (.getfield 152, 3)) (hu : u a = some (.inr (2, fs))) (hv : fs[1]? = some v) (kk : Xw p l e R s m args below meth c G z nL Z (pc + 3) lo (v :: st) u n kc ks) : Xw p l e R s m args below meth c G z nL Z pc lo (.ref (z + a) :: st) u n kc ks := x_get C gdX3 (ci := 2) rfl 1 (by decide) kfX9_152 rfl hu hv d kk
theorem pfX9_152 {x : Int32} (C : Cx p s m args c G RX9 cc nL z) (d : decode cc pc = .ok (.putfield 152, 3)) (hu : u a = some (.inr (2, fs))) (hl : 1 < fs.length) (h2 : fs.set 1 (.int x) = fs2) (hu2 : hup u a (.inr (2, fs2)) = u2) (kk : Xw p l e R s m args below meth c G z nL Z (pc + 3) lo st u2 n kc ks) : Xw p l e R s m args below meth c G z nL Z pc lo (.int x :: .ref (z + a) :: st) u n kc ks := by
  subst h2; subst hu2
  exact x_put C gdX3 tyX3 tyX3_ok nmX3 (ci := 2) rfl 1 (by decide) kfX9_152 rfl rfl rfl rfl hu hl d kk
theorem gfX3_18 {v : Value} (C : Cx p s m args c G RX3 cc nL z) (d : decode cc pc = .ok (.getfield 18, 3)) (hu : u a = some (.inr (2, fs))) (hv : fs[2]? = some v) (kk : Xw p l e R s m args below meth c G z nL Z (pc + 3) lo (v :: st) u n kc ks) : Xw p l e R s m args below meth c G z nL Z pc lo (.ref (z + a) :: st) u n kc ks := x_get C gdX3 (ci := 2) rfl 2 (by decide) kfX3_18 rfl hu hv d kk
theorem pfX3_18 {x : Int32} (C : Cx p s m args c G RX3 cc nL z) (d : decode cc pc = .ok (.putfield 18, 3)) (hu : u a = some (.inr (2, fs))) (hl : 2 < fs.length) (h2 : fs.set 2 (.int x) = fs2) (hu2 : hup u a (.inr (2, fs2)) = u2) (kk : Xw p l e R s m args below meth c G z nL Z (pc + 3) lo st u2 n kc ks) : Xw p l e R s m args below meth c G z nL Z pc lo (.int x :: .ref (z + a) :: st) u n kc ks := by
  subst h2; subst hu2
  exact x_put C gdX3 tyX3 tyX3_ok nmX3 (ci := 2) rfl 2 (by decide) kfX3_18 rfl rfl rfl rfl hu hl d kk
theorem gfX9_155 {v : Value} (C : Cx p s m args c G RX9 cc nL z) (d : decode cc pc = .ok (.getfield 155, 3)) (hu : u a = some (.inr (2, fs))) (hv : fs[2]? = some v) (kk : Xw p l e R s m args below meth c G z nL Z (pc + 3) lo (v :: st) u n kc ks) : Xw p l e R s m args below meth c G z nL Z pc lo (.ref (z + a) :: st) u n kc ks := x_get C gdX3 (ci := 2) rfl 2 (by decide) kfX9_155 rfl hu hv d kk
theorem pfX9_155 {x : Int32} (C : Cx p s m args c G RX9 cc nL z) (d : decode cc pc = .ok (.putfield 155, 3)) (hu : u a = some (.inr (2, fs))) (hl : 2 < fs.length) (h2 : fs.set 2 (.int x) = fs2) (hu2 : hup u a (.inr (2, fs2)) = u2) (kk : Xw p l e R s m args below meth c G z nL Z (pc + 3) lo st u2 n kc ks) : Xw p l e R s m args below meth c G z nL Z pc lo (.int x :: .ref (z + a) :: st) u n kc ks := by
  subst h2; subst hu2
  exact x_put C gdX3 tyX3 tyX3_ok nmX3 (ci := 2) rfl 2 (by decide) kfX9_155 rfl rfl rfl rfl hu hl d kk
theorem gfX3_21 {v : Value} (C : Cx p s m args c G RX3 cc nL z) (d : decode cc pc = .ok (.getfield 21, 3)) (hu : u a = some (.inr (2, fs))) (hv : fs[3]? = some v) (kk : Xw p l e R s m args below meth c G z nL Z (pc + 3) lo (v :: st) u n kc ks) : Xw p l e R s m args below meth c G z nL Z pc lo (.ref (z + a) :: st) u n kc ks := x_get C gdX3 (ci := 2) rfl 3 (by decide) kfX3_21 rfl hu hv d kk
theorem pfX3_21 {x : Int32} (C : Cx p s m args c G RX3 cc nL z) (d : decode cc pc = .ok (.putfield 21, 3)) (hu : u a = some (.inr (2, fs))) (hl : 3 < fs.length) (h2 : fs.set 3 (.int x) = fs2) (hu2 : hup u a (.inr (2, fs2)) = u2) (kk : Xw p l e R s m args below meth c G z nL Z (pc + 3) lo st u2 n kc ks) : Xw p l e R s m args below meth c G z nL Z pc lo (.int x :: .ref (z + a) :: st) u n kc ks := by
  subst h2; subst hu2
  exact x_put C gdX3 tyX3 tyX3_ok nmX3 (ci := 2) rfl 3 (by decide) kfX3_21 rfl rfl rfl rfl hu hl d kk
theorem gfX5_48 {v : Value} (C : Cx p s m args c G RX5 cc nL z) (d : decode cc pc = .ok (.getfield 48, 3)) (hu : u a = some (.inr (2, fs))) (hv : fs[3]? = some v) (kk : Xw p l e R s m args below meth c G z nL Z (pc + 3) lo (v :: st) u n kc ks) : Xw p l e R s m args below meth c G z nL Z pc lo (.ref (z + a) :: st) u n kc ks := x_get C gdX3 (ci := 2) rfl 3 (by decide) kfX5_48 rfl hu hv d kk
theorem pfX5_48 {x : Int32} (C : Cx p s m args c G RX5 cc nL z) (d : decode cc pc = .ok (.putfield 48, 3)) (hu : u a = some (.inr (2, fs))) (hl : 3 < fs.length) (h2 : fs.set 3 (.int x) = fs2) (hu2 : hup u a (.inr (2, fs2)) = u2) (kk : Xw p l e R s m args below meth c G z nL Z (pc + 3) lo st u2 n kc ks) : Xw p l e R s m args below meth c G z nL Z pc lo (.int x :: .ref (z + a) :: st) u n kc ks := by
  subst h2; subst hu2
  exact x_put C gdX3 tyX3 tyX3_ok nmX3 (ci := 2) rfl 3 (by decide) kfX5_48 rfl rfl rfl rfl hu hl d kk
theorem gfX9_134 {v : Value} (C : Cx p s m args c G RX9 cc nL z) (d : decode cc pc = .ok (.getfield 134, 3)) (hu : u a = some (.inr (2, fs))) (hv : fs[3]? = some v) (kk : Xw p l e R s m args below meth c G z nL Z (pc + 3) lo (v :: st) u n kc ks) : Xw p l e R s m args below meth c G z nL Z pc lo (.ref (z + a) :: st) u n kc ks := x_get C gdX3 (ci := 2) rfl 3 (by decide) kfX9_134 rfl hu hv d kk
theorem pfX9_134 {x : Int32} (C : Cx p s m args c G RX9 cc nL z) (d : decode cc pc = .ok (.putfield 134, 3)) (hu : u a = some (.inr (2, fs))) (hl : 3 < fs.length) (h2 : fs.set 3 (.int x) = fs2) (hu2 : hup u a (.inr (2, fs2)) = u2) (kk : Xw p l e R s m args below meth c G z nL Z (pc + 3) lo st u2 n kc ks) : Xw p l e R s m args below meth c G z nL Z pc lo (.int x :: .ref (z + a) :: st) u n kc ks := by
  subst h2; subst hu2
  exact x_put C gdX3 tyX3 tyX3_ok nmX3 (ci := 2) rfl 3 (by decide) kfX9_134 rfl rfl rfl rfl hu hl d kk
theorem gfX3_24 {v : Value} (C : Cx p s m args c G RX3 cc nL z) (d : decode cc pc = .ok (.getfield 24, 3)) (hu : u a = some (.inr (2, fs))) (hv : fs[4]? = some v) (kk : Xw p l e R s m args below meth c G z nL Z (pc + 3) lo (v :: st) u n kc ks) : Xw p l e R s m args below meth c G z nL Z pc lo (.ref (z + a) :: st) u n kc ks := x_get C gdX3 (ci := 2) rfl 4 (by decide) kfX3_24 rfl hu hv d kk
theorem pfX3_24 {x : Int32} (C : Cx p s m args c G RX3 cc nL z) (d : decode cc pc = .ok (.putfield 24, 3)) (hu : u a = some (.inr (2, fs))) (hl : 4 < fs.length) (h2 : fs.set 4 (.int x) = fs2) (hu2 : hup u a (.inr (2, fs2)) = u2) (kk : Xw p l e R s m args below meth c G z nL Z (pc + 3) lo st u2 n kc ks) : Xw p l e R s m args below meth c G z nL Z pc lo (.int x :: .ref (z + a) :: st) u n kc ks := by
  subst h2; subst hu2
  exact x_put C gdX3 tyX3 tyX3_ok nmX3 (ci := 2) rfl 4 (by decide) kfX3_24 rfl rfl rfl rfl hu hl d kk
theorem gfX9_158 {v : Value} (C : Cx p s m args c G RX9 cc nL z) (d : decode cc pc = .ok (.getfield 158, 3)) (hu : u a = some (.inr (2, fs))) (hv : fs[4]? = some v) (kk : Xw p l e R s m args below meth c G z nL Z (pc + 3) lo (v :: st) u n kc ks) : Xw p l e R s m args below meth c G z nL Z pc lo (.ref (z + a) :: st) u n kc ks := x_get C gdX3 (ci := 2) rfl 4 (by decide) kfX9_158 rfl hu hv d kk
theorem pfX9_158 {x : Int32} (C : Cx p s m args c G RX9 cc nL z) (d : decode cc pc = .ok (.putfield 158, 3)) (hu : u a = some (.inr (2, fs))) (hl : 4 < fs.length) (h2 : fs.set 4 (.int x) = fs2) (hu2 : hup u a (.inr (2, fs2)) = u2) (kk : Xw p l e R s m args below meth c G z nL Z (pc + 3) lo st u2 n kc ks) : Xw p l e R s m args below meth c G z nL Z pc lo (.int x :: .ref (z + a) :: st) u n kc ks := by
  subst h2; subst hu2
  exact x_put C gdX3 tyX3 tyX3_ok nmX3 (ci := 2) rfl 4 (by decide) kfX9_158 rfl rfl rfl rfl hu hl d kk
theorem gfX3_27 {v : Value} (C : Cx p s m args c G RX3 cc nL z) (d : decode cc pc = .ok (.getfield 27, 3)) (hu : u a = some (.inr (2, fs))) (hv : fs[5]? = some v) (kk : Xw p l e R s m args below meth c G z nL Z (pc + 3) lo (v :: st) u n kc ks) : Xw p l e R s m args below meth c G z nL Z pc lo (.ref (z + a) :: st) u n kc ks := x_get C gdX3 (ci := 2) rfl 5 (by decide) kfX3_27 rfl hu hv d kk
theorem pfX3_27 {x : Int32} (C : Cx p s m args c G RX3 cc nL z) (d : decode cc pc = .ok (.putfield 27, 3)) (hu : u a = some (.inr (2, fs))) (hl : 5 < fs.length) (h2 : fs.set 5 (.int x) = fs2) (hu2 : hup u a (.inr (2, fs2)) = u2) (kk : Xw p l e R s m args below meth c G z nL Z (pc + 3) lo st u2 n kc ks) : Xw p l e R s m args below meth c G z nL Z pc lo (.int x :: .ref (z + a) :: st) u n kc ks := by
  subst h2; subst hu2
  exact x_put C gdX3 tyX3 tyX3_ok nmX3 (ci := 2) rfl 5 (by decide) kfX3_27 rfl rfl rfl rfl hu hl d kk
theorem gfX9_161 {v : Value} (C : Cx p s m args c G RX9 cc nL z) (d : decode cc pc = .ok (.getfield 161, 3)) (hu : u a = some (.inr (2, fs))) (hv : fs[5]? = some v) (kk : Xw p l e R s m args below meth c G z nL Z (pc + 3) lo (v :: st) u n kc ks) : Xw p l e R s m args below meth c G z nL Z pc lo (.ref (z + a) :: st) u n kc ks := x_get C gdX3 (ci := 2) rfl 5 (by decide) kfX9_161 rfl hu hv d kk
theorem pfX9_161 {x : Int32} (C : Cx p s m args c G RX9 cc nL z) (d : decode cc pc = .ok (.putfield 161, 3)) (hu : u a = some (.inr (2, fs))) (hl : 5 < fs.length) (h2 : fs.set 5 (.int x) = fs2) (hu2 : hup u a (.inr (2, fs2)) = u2) (kk : Xw p l e R s m args below meth c G z nL Z (pc + 3) lo st u2 n kc ks) : Xw p l e R s m args below meth c G z nL Z pc lo (.int x :: .ref (z + a) :: st) u n kc ks := by
  subst h2; subst hu2
  exact x_put C gdX3 tyX3 tyX3_ok nmX3 (ci := 2) rfl 5 (by decide) kfX9_161 rfl rfl rfl rfl hu hl d kk
theorem gfX3_30 {v : Value} (C : Cx p s m args c G RX3 cc nL z) (d : decode cc pc = .ok (.getfield 30, 3)) (hu : u a = some (.inr (2, fs))) (hv : fs[6]? = some v) (kk : Xw p l e R s m args below meth c G z nL Z (pc + 3) lo (v :: st) u n kc ks) : Xw p l e R s m args below meth c G z nL Z pc lo (.ref (z + a) :: st) u n kc ks := x_get C gdX3 (ci := 2) rfl 6 (by decide) kfX3_30 rfl hu hv d kk
theorem pfX3_30 {x : Int32} (C : Cx p s m args c G RX3 cc nL z) (d : decode cc pc = .ok (.putfield 30, 3)) (hu : u a = some (.inr (2, fs))) (hl : 6 < fs.length) (h2 : fs.set 6 (.int x) = fs2) (hu2 : hup u a (.inr (2, fs2)) = u2) (kk : Xw p l e R s m args below meth c G z nL Z (pc + 3) lo st u2 n kc ks) : Xw p l e R s m args below meth c G z nL Z pc lo (.int x :: .ref (z + a) :: st) u n kc ks := by
  subst h2; subst hu2
  exact x_put C gdX3 tyX3 tyX3_ok nmX3 (ci := 2) rfl 6 (by decide) kfX3_30 rfl rfl rfl rfl hu hl d kk
theorem gfX9_164 {v : Value} (C : Cx p s m args c G RX9 cc nL z) (d : decode cc pc = .ok (.getfield 164, 3)) (hu : u a = some (.inr (2, fs))) (hv : fs[6]? = some v) (kk : Xw p l e R s m args below meth c G z nL Z (pc + 3) lo (v :: st) u n kc ks) : Xw p l e R s m args below meth c G z nL Z pc lo (.ref (z + a) :: st) u n kc ks := x_get C gdX3 (ci := 2) rfl 6 (by decide) kfX9_164 rfl hu hv d kk
theorem pfX9_164 {x : Int32} (C : Cx p s m args c G RX9 cc nL z) (d : decode cc pc = .ok (.putfield 164, 3)) (hu : u a = some (.inr (2, fs))) (hl : 6 < fs.length) (h2 : fs.set 6 (.int x) = fs2) (hu2 : hup u a (.inr (2, fs2)) = u2) (kk : Xw p l e R s m args below meth c G z nL Z (pc + 3) lo st u2 n kc ks) : Xw p l e R s m args below meth c G z nL Z pc lo (.int x :: .ref (z + a) :: st) u n kc ks := by
  subst h2; subst hu2
  exact x_put C gdX3 tyX3 tyX3_ok nmX3 (ci := 2) rfl 6 (by decide) kfX9_164 rfl rfl rfl rfl hu hl d kk
theorem gfX3_33 {v : Value} (C : Cx p s m args c G RX3 cc nL z) (d : decode cc pc = .ok (.getfield 33, 3)) (hu : u a = some (.inr (2, fs))) (hv : fs[7]? = some v) (kk : Xw p l e R s m args below meth c G z nL Z (pc + 3) lo (v :: st) u n kc ks) : Xw p l e R s m args below meth c G z nL Z pc lo (.ref (z + a) :: st) u n kc ks := x_get C gdX3 (ci := 2) rfl 7 (by decide) kfX3_33 rfl hu hv d kk
theorem pfX3_33 {x : Int32} (C : Cx p s m args c G RX3 cc nL z) (d : decode cc pc = .ok (.putfield 33, 3)) (hu : u a = some (.inr (2, fs))) (hl : 7 < fs.length) (h2 : fs.set 7 (.int x) = fs2) (hu2 : hup u a (.inr (2, fs2)) = u2) (kk : Xw p l e R s m args below meth c G z nL Z (pc + 3) lo st u2 n kc ks) : Xw p l e R s m args below meth c G z nL Z pc lo (.int x :: .ref (z + a) :: st) u n kc ks := by
  subst h2; subst hu2
  exact x_put C gdX3 tyX3 tyX3_ok nmX3 (ci := 2) rfl 7 (by decide) kfX3_33 rfl rfl rfl rfl hu hl d kk
theorem gfX5_39 {v : Value} (C : Cx p s m args c G RX5 cc nL z) (d : decode cc pc = .ok (.getfield 39, 3)) (hu : u a = some (.inr (2, fs))) (hv : fs[7]? = some v) (kk : Xw p l e R s m args below meth c G z nL Z (pc + 3) lo (v :: st) u n kc ks) : Xw p l e R s m args below meth c G z nL Z pc lo (.ref (z + a) :: st) u n kc ks := x_get C gdX3 (ci := 2) rfl 7 (by decide) kfX5_39 rfl hu hv d kk
theorem pfX5_39 {x : Int32} (C : Cx p s m args c G RX5 cc nL z) (d : decode cc pc = .ok (.putfield 39, 3)) (hu : u a = some (.inr (2, fs))) (hl : 7 < fs.length) (h2 : fs.set 7 (.int x) = fs2) (hu2 : hup u a (.inr (2, fs2)) = u2) (kk : Xw p l e R s m args below meth c G z nL Z (pc + 3) lo st u2 n kc ks) : Xw p l e R s m args below meth c G z nL Z pc lo (.int x :: .ref (z + a) :: st) u n kc ks := by
  subst h2; subst hu2
  exact x_put C gdX3 tyX3 tyX3_ok nmX3 (ci := 2) rfl 7 (by decide) kfX5_39 rfl rfl rfl rfl hu hl d kk
theorem gfX9_167 {v : Value} (C : Cx p s m args c G RX9 cc nL z) (d : decode cc pc = .ok (.getfield 167, 3)) (hu : u a = some (.inr (2, fs))) (hv : fs[7]? = some v) (kk : Xw p l e R s m args below meth c G z nL Z (pc + 3) lo (v :: st) u n kc ks) : Xw p l e R s m args below meth c G z nL Z pc lo (.ref (z + a) :: st) u n kc ks := x_get C gdX3 (ci := 2) rfl 7 (by decide) kfX9_167 rfl hu hv d kk
theorem pfX9_167 {x : Int32} (C : Cx p s m args c G RX9 cc nL z) (d : decode cc pc = .ok (.putfield 167, 3)) (hu : u a = some (.inr (2, fs))) (hl : 7 < fs.length) (h2 : fs.set 7 (.int x) = fs2) (hu2 : hup u a (.inr (2, fs2)) = u2) (kk : Xw p l e R s m args below meth c G z nL Z (pc + 3) lo st u2 n kc ks) : Xw p l e R s m args below meth c G z nL Z pc lo (.int x :: .ref (z + a) :: st) u n kc ks := by
  subst h2; subst hu2
  exact x_put C gdX3 tyX3 tyX3_ok nmX3 (ci := 2) rfl 7 (by decide) kfX9_167 rfl rfl rfl rfl hu hl d kk
theorem gfX3_36 {v : Value} (C : Cx p s m args c G RX3 cc nL z) (d : decode cc pc = .ok (.getfield 36, 3)) (hu : u a = some (.inr (2, fs))) (hv : fs[8]? = some v) (kk : Xw p l e R s m args below meth c G z nL Z (pc + 3) lo (v :: st) u n kc ks) : Xw p l e R s m args below meth c G z nL Z pc lo (.ref (z + a) :: st) u n kc ks := x_get C gdX3 (ci := 2) rfl 8 (by decide) kfX3_36 rfl hu hv d kk
theorem pfX3_36 {x : Int32} (C : Cx p s m args c G RX3 cc nL z) (d : decode cc pc = .ok (.putfield 36, 3)) (hu : u a = some (.inr (2, fs))) (hl : 8 < fs.length) (h2 : fs.set 8 (.int x) = fs2) (hu2 : hup u a (.inr (2, fs2)) = u2) (kk : Xw p l e R s m args below meth c G z nL Z (pc + 3) lo st u2 n kc ks) : Xw p l e R s m args below meth c G z nL Z pc lo (.int x :: .ref (z + a) :: st) u n kc ks := by
  subst h2; subst hu2
  exact x_put C gdX3 tyX3 tyX3_ok nmX3 (ci := 2) rfl 8 (by decide) kfX3_36 rfl rfl rfl rfl hu hl d kk
theorem gfX9_170 {v : Value} (C : Cx p s m args c G RX9 cc nL z) (d : decode cc pc = .ok (.getfield 170, 3)) (hu : u a = some (.inr (2, fs))) (hv : fs[8]? = some v) (kk : Xw p l e R s m args below meth c G z nL Z (pc + 3) lo (v :: st) u n kc ks) : Xw p l e R s m args below meth c G z nL Z pc lo (.ref (z + a) :: st) u n kc ks := x_get C gdX3 (ci := 2) rfl 8 (by decide) kfX9_170 rfl hu hv d kk
theorem pfX9_170 {x : Int32} (C : Cx p s m args c G RX9 cc nL z) (d : decode cc pc = .ok (.putfield 170, 3)) (hu : u a = some (.inr (2, fs))) (hl : 8 < fs.length) (h2 : fs.set 8 (.int x) = fs2) (hu2 : hup u a (.inr (2, fs2)) = u2) (kk : Xw p l e R s m args below meth c G z nL Z (pc + 3) lo st u2 n kc ks) : Xw p l e R s m args below meth c G z nL Z pc lo (.int x :: .ref (z + a) :: st) u n kc ks := by
  subst h2; subst hu2
  exact x_put C gdX3 tyX3 tyX3_ok nmX3 (ci := 2) rfl 8 (by decide) kfX9_170 rfl rfl rfl rfl hu hl d kk
theorem gfX3_39 {v : Value} (C : Cx p s m args c G RX3 cc nL z) (d : decode cc pc = .ok (.getfield 39, 3)) (hu : u a = some (.inr (2, fs))) (hv : fs[9]? = some v) (kk : Xw p l e R s m args below meth c G z nL Z (pc + 3) lo (v :: st) u n kc ks) : Xw p l e R s m args below meth c G z nL Z pc lo (.ref (z + a) :: st) u n kc ks := x_get C gdX3 (ci := 2) rfl 9 (by decide) kfX3_39 rfl hu hv d kk
theorem pfX3_39 {x : Int32} (C : Cx p s m args c G RX3 cc nL z) (d : decode cc pc = .ok (.putfield 39, 3)) (hu : u a = some (.inr (2, fs))) (hl : 9 < fs.length) (h2 : fs.set 9 (.int x) = fs2) (hu2 : hup u a (.inr (2, fs2)) = u2) (kk : Xw p l e R s m args below meth c G z nL Z (pc + 3) lo st u2 n kc ks) : Xw p l e R s m args below meth c G z nL Z pc lo (.int x :: .ref (z + a) :: st) u n kc ks := by
  subst h2; subst hu2
  exact x_put C gdX3 tyX3 tyX3_ok nmX3 (ci := 2) rfl 9 (by decide) kfX3_39 rfl rfl rfl rfl hu hl d kk
theorem gfX9_173 {v : Value} (C : Cx p s m args c G RX9 cc nL z) (d : decode cc pc = .ok (.getfield 173, 3)) (hu : u a = some (.inr (2, fs))) (hv : fs[9]? = some v) (kk : Xw p l e R s m args below meth c G z nL Z (pc + 3) lo (v :: st) u n kc ks) : Xw p l e R s m args below meth c G z nL Z pc lo (.ref (z + a) :: st) u n kc ks := x_get C gdX3 (ci := 2) rfl 9 (by decide) kfX9_173 rfl hu hv d kk
theorem pfX9_173 {x : Int32} (C : Cx p s m args c G RX9 cc nL z) (d : decode cc pc = .ok (.putfield 173, 3)) (hu : u a = some (.inr (2, fs))) (hl : 9 < fs.length) (h2 : fs.set 9 (.int x) = fs2) (hu2 : hup u a (.inr (2, fs2)) = u2) (kk : Xw p l e R s m args below meth c G z nL Z (pc + 3) lo st u2 n kc ks) : Xw p l e R s m args below meth c G z nL Z pc lo (.int x :: .ref (z + a) :: st) u n kc ks := by
  subst h2; subst hu2
  exact x_put C gdX3 tyX3 tyX3_ok nmX3 (ci := 2) rfl 9 (by decide) kfX9_173 rfl rfl rfl rfl hu hl d kk
theorem gfX3_42 {v : Value} (C : Cx p s m args c G RX3 cc nL z) (d : decode cc pc = .ok (.getfield 42, 3)) (hu : u a = some (.inr (2, fs))) (hv : fs[10]? = some v) (kk : Xw p l e R s m args below meth c G z nL Z (pc + 3) lo (v :: st) u n kc ks) : Xw p l e R s m args below meth c G z nL Z pc lo (.ref (z + a) :: st) u n kc ks := x_get C gdX3 (ci := 2) rfl 10 (by decide) kfX3_42 rfl hu hv d kk
theorem pfX3_42 {x : Nat} (C : Cx p s m args c G RX3 cc nL z) (d : decode cc pc = .ok (.putfield 42, 3)) (hi : meth.name = "<init>") (hu : u a = some (.inr (2, fs))) (hl : 10 < fs.length) (h2 : fs.set 10 (.ref x) = fs2) (hu2 : hup u a (.inr (2, fs2)) = u2) (kk : Xw p l e R s m args below meth c G z nL Z (pc + 3) lo st u2 n kc ks) : Xw p l e R s m args below meth c G z nL Z pc lo (.ref x :: .ref (z + a) :: st) u n kc ks := by
  subst h2; subst hu2
  exact x_putF C gdX3 tyX3 tyX3_ok nmX3 (ci := 2) rfl 10 (by decide) kfX3_42 rfl rfl hi rfl rfl rfl hu hl d kk
theorem gfX9_208 {v : Value} (C : Cx p s m args c G RX9 cc nL z) (d : decode cc pc = .ok (.getfield 208, 3)) (hu : u a = some (.inr (2, fs))) (hv : fs[10]? = some v) (kk : Xw p l e R s m args below meth c G z nL Z (pc + 3) lo (v :: st) u n kc ks) : Xw p l e R s m args below meth c G z nL Z pc lo (.ref (z + a) :: st) u n kc ks := x_get C gdX3 (ci := 2) rfl 10 (by decide) kfX9_208 rfl hu hv d kk
theorem gfX3_46 {v : Value} (C : Cx p s m args c G RX3 cc nL z) (d : decode cc pc = .ok (.getfield 46, 3)) (hu : u a = some (.inr (2, fs))) (hv : fs[11]? = some v) (kk : Xw p l e R s m args below meth c G z nL Z (pc + 3) lo (v :: st) u n kc ks) : Xw p l e R s m args below meth c G z nL Z pc lo (.ref (z + a) :: st) u n kc ks := x_get C gdX3 (ci := 2) rfl 11 (by decide) kfX3_46 rfl hu hv d kk
theorem pfX3_46 {x : Nat} (C : Cx p s m args c G RX3 cc nL z) (d : decode cc pc = .ok (.putfield 46, 3)) (hi : meth.name = "<init>") (hu : u a = some (.inr (2, fs))) (hl : 11 < fs.length) (h2 : fs.set 11 (.ref x) = fs2) (hu2 : hup u a (.inr (2, fs2)) = u2) (kk : Xw p l e R s m args below meth c G z nL Z (pc + 3) lo st u2 n kc ks) : Xw p l e R s m args below meth c G z nL Z pc lo (.ref x :: .ref (z + a) :: st) u n kc ks := by
  subst h2; subst hu2
  exact x_putF C gdX3 tyX3 tyX3_ok nmX3 (ci := 2) rfl 11 (by decide) kfX3_46 rfl rfl hi rfl rfl rfl hu hl d kk
theorem gfX9_205 {v : Value} (C : Cx p s m args c G RX9 cc nL z) (d : decode cc pc = .ok (.getfield 205, 3)) (hu : u a = some (.inr (2, fs))) (hv : fs[11]? = some v) (kk : Xw p l e R s m args below meth c G z nL Z (pc + 3) lo (v :: st) u n kc ks) : Xw p l e R s m args below meth c G z nL Z pc lo (.ref (z + a) :: st) u n kc ks := x_get C gdX3 (ci := 2) rfl 11 (by decide) kfX9_205 rfl hu hv d kk
theorem gfX6_11 {v : Value} (C : Cx p s m args c G RX6 cc nL z) (d : decode cc pc = .ok (.getfield 11, 3)) (hu : u a = some (.inr (5, fs))) (hv : fs[0]? = some v) (kk : Xw p l e R s m args below meth c G z nL Z (pc + 3) lo (v :: st) u n kc ks) : Xw p l e R s m args below meth c G z nL Z pc lo (.ref (z + a) :: st) u n kc ks := x_get C gdX6 (ci := 5) rfl 0 (by decide) kfX6_11 rfl hu hv d kk
theorem pfX6_11 {x : Nat} (C : Cx p s m args c G RX6 cc nL z) (d : decode cc pc = .ok (.putfield 11, 3)) (hi : meth.name = "<init>") (hu : u a = some (.inr (5, fs))) (hl : 0 < fs.length) (h2 : fs.set 0 (.ref x) = fs2) (hu2 : hup u a (.inr (5, fs2)) = u2) (kk : Xw p l e R s m args below meth c G z nL Z (pc + 3) lo st u2 n kc ks) : Xw p l e R s m args below meth c G z nL Z pc lo (.ref x :: .ref (z + a) :: st) u n kc ks := by
  subst h2; subst hu2
  exact x_putF C gdX6 tyX6 tyX6_ok nmX6 (ci := 5) rfl 0 (by decide) kfX6_11 rfl rfl hi rfl rfl rfl hu hl d kk
theorem gfX6_17 {v : Value} (C : Cx p s m args c G RX6 cc nL z) (d : decode cc pc = .ok (.getfield 17, 3)) (hu : u a = some (.inr (5, fs))) (hv : fs[1]? = some v) (kk : Xw p l e R s m args below meth c G z nL Z (pc + 3) lo (v :: st) u n kc ks) : Xw p l e R s m args below meth c G z nL Z pc lo (.ref (z + a) :: st) u n kc ks := x_get C gdX6 (ci := 5) rfl 1 (by decide) kfX6_17 rfl hu hv d kk
theorem pfX6_17 {x : Int32} (C : Cx p s m args c G RX6 cc nL z) (d : decode cc pc = .ok (.putfield 17, 3)) (hu : u a = some (.inr (5, fs))) (hl : 1 < fs.length) (h2 : fs.set 1 (.int x) = fs2) (hu2 : hup u a (.inr (5, fs2)) = u2) (kk : Xw p l e R s m args below meth c G z nL Z (pc + 3) lo st u2 n kc ks) : Xw p l e R s m args below meth c G z nL Z pc lo (.int x :: .ref (z + a) :: st) u n kc ks := by
  subst h2; subst hu2
  exact x_put C gdX6 tyX6 tyX6_ok nmX6 (ci := 5) rfl 1 (by decide) kfX6_17 rfl rfl rfl rfl hu hl d kk
theorem gfX9_144 {v : Value} (C : Cx p s m args c G RX9 cc nL z) (d : decode cc pc = .ok (.getfield 144, 3)) (hu : u a = some (.inr (5, fs))) (hv : fs[1]? = some v) (kk : Xw p l e R s m args below meth c G z nL Z (pc + 3) lo (v :: st) u n kc ks) : Xw p l e R s m args below meth c G z nL Z pc lo (.ref (z + a) :: st) u n kc ks := x_get C gdX6 (ci := 5) rfl 1 (by decide) kfX9_144 rfl hu hv d kk
theorem pfX9_144 {x : Int32} (C : Cx p s m args c G RX9 cc nL z) (d : decode cc pc = .ok (.putfield 144, 3)) (hu : u a = some (.inr (5, fs))) (hl : 1 < fs.length) (h2 : fs.set 1 (.int x) = fs2) (hu2 : hup u a (.inr (5, fs2)) = u2) (kk : Xw p l e R s m args below meth c G z nL Z (pc + 3) lo st u2 n kc ks) : Xw p l e R s m args below meth c G z nL Z pc lo (.int x :: .ref (z + a) :: st) u n kc ks := by
  subst h2; subst hu2
  exact x_put C gdX6 tyX6 tyX6_ok nmX6 (ci := 5) rfl 1 (by decide) kfX9_144 rfl rfl rfl rfl hu hl d kk
theorem gfX6_21 {v : Value} (C : Cx p s m args c G RX6 cc nL z) (d : decode cc pc = .ok (.getfield 21, 3)) (hu : u a = some (.inr (5, fs))) (hv : fs[2]? = some v) (kk : Xw p l e R s m args below meth c G z nL Z (pc + 3) lo (v :: st) u n kc ks) : Xw p l e R s m args below meth c G z nL Z pc lo (.ref (z + a) :: st) u n kc ks := x_get C gdX6 (ci := 5) rfl 2 (by decide) kfX6_21 rfl hu hv d kk
theorem pfX6_21 {x : Int32} (C : Cx p s m args c G RX6 cc nL z) (d : decode cc pc = .ok (.putfield 21, 3)) (hu : u a = some (.inr (5, fs))) (hl : 2 < fs.length) (h2 : fs.set 2 (.int x) = fs2) (hu2 : hup u a (.inr (5, fs2)) = u2) (kk : Xw p l e R s m args below meth c G z nL Z (pc + 3) lo st u2 n kc ks) : Xw p l e R s m args below meth c G z nL Z pc lo (.int x :: .ref (z + a) :: st) u n kc ks := by
  subst h2; subst hu2
  exact x_put C gdX6 tyX6 tyX6_ok nmX6 (ci := 5) rfl 2 (by decide) kfX6_21 rfl rfl rfl rfl hu hl d kk
theorem gfX8_9 {v : Value} (C : Cx p s m args c G RX8 cc nL z) (d : decode cc pc = .ok (.getfield 9, 3)) (hu : u a = some (.inr (7, fs))) (hv : fs[0]? = some v) (kk : Xw p l e R s m args below meth c G z nL Z (pc + 3) lo (v :: st) u n kc ks) : Xw p l e R s m args below meth c G z nL Z pc lo (.ref (z + a) :: st) u n kc ks := x_get C gdX8 (ci := 7) rfl 0 (by decide) kfX8_9 rfl hu hv d kk
theorem pfX8_9 {x : Nat} (C : Cx p s m args c G RX8 cc nL z) (d : decode cc pc = .ok (.putfield 9, 3)) (hi : meth.name = "<init>") (hu : u a = some (.inr (7, fs))) (hl : 0 < fs.length) (h2 : fs.set 0 (.ref x) = fs2) (hu2 : hup u a (.inr (7, fs2)) = u2) (kk : Xw p l e R s m args below meth c G z nL Z (pc + 3) lo st u2 n kc ks) : Xw p l e R s m args below meth c G z nL Z pc lo (.ref x :: .ref (z + a) :: st) u n kc ks := by
  subst h2; subst hu2
  exact x_putF C gdX8 tyX8 tyX8_ok nmX8 (ci := 7) rfl 0 (by decide) kfX8_9 rfl rfl hi rfl rfl rfl hu hl d kk
theorem gfX8_15 {v : Value} (C : Cx p s m args c G RX8 cc nL z) (d : decode cc pc = .ok (.getfield 15, 3)) (hu : u a = some (.inr (7, fs))) (hv : fs[1]? = some v) (kk : Xw p l e R s m args below meth c G z nL Z (pc + 3) lo (v :: st) u n kc ks) : Xw p l e R s m args below meth c G z nL Z pc lo (.ref (z + a) :: st) u n kc ks := x_get C gdX8 (ci := 7) rfl 1 (by decide) kfX8_15 rfl hu hv d kk
theorem pfX8_15 {x : Int32} (C : Cx p s m args c G RX8 cc nL z) (d : decode cc pc = .ok (.putfield 15, 3)) (hu : u a = some (.inr (7, fs))) (hl : 1 < fs.length) (h2 : fs.set 1 (.int x) = fs2) (hu2 : hup u a (.inr (7, fs2)) = u2) (kk : Xw p l e R s m args below meth c G z nL Z (pc + 3) lo st u2 n kc ks) : Xw p l e R s m args below meth c G z nL Z pc lo (.int x :: .ref (z + a) :: st) u n kc ks := by
  subst h2; subst hu2
  exact x_put C gdX8 tyX8 tyX8_ok nmX8 (ci := 7) rfl 1 (by decide) kfX8_15 rfl rfl rfl rfl hu hl d kk
theorem gfX5_57 {v : Value} (C : Cx p s m args c G RX5 cc nL z) (d : decode cc pc = .ok (.getfield 57, 3)) (hu : u a = some (.inr (7, fs))) (hv : fs[1]? = some v) (kk : Xw p l e R s m args below meth c G z nL Z (pc + 3) lo (v :: st) u n kc ks) : Xw p l e R s m args below meth c G z nL Z pc lo (.ref (z + a) :: st) u n kc ks := x_get C gdX8 (ci := 7) rfl 1 (by decide) kfX5_57 rfl hu hv d kk
theorem pfX5_57 {x : Int32} (C : Cx p s m args c G RX5 cc nL z) (d : decode cc pc = .ok (.putfield 57, 3)) (hu : u a = some (.inr (7, fs))) (hl : 1 < fs.length) (h2 : fs.set 1 (.int x) = fs2) (hu2 : hup u a (.inr (7, fs2)) = u2) (kk : Xw p l e R s m args below meth c G z nL Z (pc + 3) lo st u2 n kc ks) : Xw p l e R s m args below meth c G z nL Z pc lo (.int x :: .ref (z + a) :: st) u n kc ks := by
  subst h2; subst hu2
  exact x_put C gdX8 tyX8 tyX8_ok nmX8 (ci := 7) rfl 1 (by decide) kfX5_57 rfl rfl rfl rfl hu hl d kk
theorem gfX9_286 {v : Value} (C : Cx p s m args c G RX9 cc nL z) (d : decode cc pc = .ok (.getfield 286, 3)) (hu : u a = some (.inr (7, fs))) (hv : fs[1]? = some v) (kk : Xw p l e R s m args below meth c G z nL Z (pc + 3) lo (v :: st) u n kc ks) : Xw p l e R s m args below meth c G z nL Z pc lo (.ref (z + a) :: st) u n kc ks := x_get C gdX8 (ci := 7) rfl 1 (by decide) kfX9_286 rfl hu hv d kk
theorem pfX9_286 {x : Int32} (C : Cx p s m args c G RX9 cc nL z) (d : decode cc pc = .ok (.putfield 286, 3)) (hu : u a = some (.inr (7, fs))) (hl : 1 < fs.length) (h2 : fs.set 1 (.int x) = fs2) (hu2 : hup u a (.inr (7, fs2)) = u2) (kk : Xw p l e R s m args below meth c G z nL Z (pc + 3) lo st u2 n kc ks) : Xw p l e R s m args below meth c G z nL Z pc lo (.int x :: .ref (z + a) :: st) u n kc ks := by
  subst h2; subst hu2
  exact x_put C gdX8 tyX8 tyX8_ok nmX8 (ci := 7) rfl 1 (by decide) kfX9_286 rfl rfl rfl rfl hu hl d kk
theorem gfX8_19 {v : Value} (C : Cx p s m args c G RX8 cc nL z) (d : decode cc pc = .ok (.getfield 19, 3)) (hu : u a = some (.inr (7, fs))) (hv : fs[2]? = some v) (kk : Xw p l e R s m args below meth c G z nL Z (pc + 3) lo (v :: st) u n kc ks) : Xw p l e R s m args below meth c G z nL Z pc lo (.ref (z + a) :: st) u n kc ks := x_get C gdX8 (ci := 7) rfl 2 (by decide) kfX8_19 rfl hu hv d kk
theorem pfX8_19 {x : Int32} (C : Cx p s m args c G RX8 cc nL z) (d : decode cc pc = .ok (.putfield 19, 3)) (hu : u a = some (.inr (7, fs))) (hl : 2 < fs.length) (h2 : fs.set 2 (.int x) = fs2) (hu2 : hup u a (.inr (7, fs2)) = u2) (kk : Xw p l e R s m args below meth c G z nL Z (pc + 3) lo st u2 n kc ks) : Xw p l e R s m args below meth c G z nL Z pc lo (.int x :: .ref (z + a) :: st) u n kc ks := by
  subst h2; subst hu2
  exact x_put C gdX8 tyX8 tyX8_ok nmX8 (ci := 7) rfl 2 (by decide) kfX8_19 rfl rfl rfl rfl hu hl d kk
theorem gfX9_289 {v : Value} (C : Cx p s m args c G RX9 cc nL z) (d : decode cc pc = .ok (.getfield 289, 3)) (hu : u a = some (.inr (7, fs))) (hv : fs[2]? = some v) (kk : Xw p l e R s m args below meth c G z nL Z (pc + 3) lo (v :: st) u n kc ks) : Xw p l e R s m args below meth c G z nL Z pc lo (.ref (z + a) :: st) u n kc ks := x_get C gdX8 (ci := 7) rfl 2 (by decide) kfX9_289 rfl hu hv d kk
theorem pfX9_289 {x : Int32} (C : Cx p s m args c G RX9 cc nL z) (d : decode cc pc = .ok (.putfield 289, 3)) (hu : u a = some (.inr (7, fs))) (hl : 2 < fs.length) (h2 : fs.set 2 (.int x) = fs2) (hu2 : hup u a (.inr (7, fs2)) = u2) (kk : Xw p l e R s m args below meth c G z nL Z (pc + 3) lo st u2 n kc ks) : Xw p l e R s m args below meth c G z nL Z pc lo (.int x :: .ref (z + a) :: st) u n kc ks := by
  subst h2; subst hu2
  exact x_put C gdX8 tyX8 tyX8_ok nmX8 (ci := 7) rfl 2 (by decide) kfX9_289 rfl rfl rfl rfl hu hl d kk
theorem gfX8_22 {v : Value} (C : Cx p s m args c G RX8 cc nL z) (d : decode cc pc = .ok (.getfield 22, 3)) (hu : u a = some (.inr (7, fs))) (hv : fs[3]? = some v) (kk : Xw p l e R s m args below meth c G z nL Z (pc + 3) lo (v :: st) u n kc ks) : Xw p l e R s m args below meth c G z nL Z pc lo (.ref (z + a) :: st) u n kc ks := x_get C gdX8 (ci := 7) rfl 3 (by decide) kfX8_22 rfl hu hv d kk
theorem pfX8_22 {x : Int32} (C : Cx p s m args c G RX8 cc nL z) (d : decode cc pc = .ok (.putfield 22, 3)) (hu : u a = some (.inr (7, fs))) (hl : 3 < fs.length) (h2 : fs.set 3 (.int x) = fs2) (hu2 : hup u a (.inr (7, fs2)) = u2) (kk : Xw p l e R s m args below meth c G z nL Z (pc + 3) lo st u2 n kc ks) : Xw p l e R s m args below meth c G z nL Z pc lo (.int x :: .ref (z + a) :: st) u n kc ks := by
  subst h2; subst hu2
  exact x_put C gdX8 tyX8 tyX8_ok nmX8 (ci := 7) rfl 3 (by decide) kfX8_22 rfl rfl rfl rfl hu hl d kk
theorem gfX9_292 {v : Value} (C : Cx p s m args c G RX9 cc nL z) (d : decode cc pc = .ok (.getfield 292, 3)) (hu : u a = some (.inr (7, fs))) (hv : fs[3]? = some v) (kk : Xw p l e R s m args below meth c G z nL Z (pc + 3) lo (v :: st) u n kc ks) : Xw p l e R s m args below meth c G z nL Z pc lo (.ref (z + a) :: st) u n kc ks := x_get C gdX8 (ci := 7) rfl 3 (by decide) kfX9_292 rfl hu hv d kk
theorem pfX9_292 {x : Int32} (C : Cx p s m args c G RX9 cc nL z) (d : decode cc pc = .ok (.putfield 292, 3)) (hu : u a = some (.inr (7, fs))) (hl : 3 < fs.length) (h2 : fs.set 3 (.int x) = fs2) (hu2 : hup u a (.inr (7, fs2)) = u2) (kk : Xw p l e R s m args below meth c G z nL Z (pc + 3) lo st u2 n kc ks) : Xw p l e R s m args below meth c G z nL Z pc lo (.int x :: .ref (z + a) :: st) u n kc ks := by
  subst h2; subst hu2
  exact x_put C gdX8 tyX8 tyX8_ok nmX8 (ci := 7) rfl 3 (by decide) kfX9_292 rfl rfl rfl rfl hu hl d kk
theorem gfX5_9 {v : Value} (C : Cx p s m args c G RX5 cc nL z) (d : decode cc pc = .ok (.getfield 9, 3)) (hu : u a = some (.inr (4, fs))) (hv : fs[0]? = some v) (kk : Xw p l e R s m args below meth c G z nL Z (pc + 3) lo (v :: st) u n kc ks) : Xw p l e R s m args below meth c G z nL Z pc lo (.ref (z + a) :: st) u n kc ks := x_get C gdX5 (ci := 4) rfl 0 (by decide) kfX5_9 rfl hu hv d kk
theorem pfX5_9 {x : Nat} (C : Cx p s m args c G RX5 cc nL z) (d : decode cc pc = .ok (.putfield 9, 3)) (hi : meth.name = "<init>") (hu : u a = some (.inr (4, fs))) (hl : 0 < fs.length) (h2 : fs.set 0 (.ref x) = fs2) (hu2 : hup u a (.inr (4, fs2)) = u2) (kk : Xw p l e R s m args below meth c G z nL Z (pc + 3) lo st u2 n kc ks) : Xw p l e R s m args below meth c G z nL Z pc lo (.ref x :: .ref (z + a) :: st) u n kc ks := by
  subst h2; subst hu2
  exact x_putF C gdX5 tyX5 tyX5_ok nmX5 (ci := 4) rfl 0 (by decide) kfX5_9 rfl rfl hi rfl rfl rfl hu hl d kk
theorem gfX5_15 {v : Value} (C : Cx p s m args c G RX5 cc nL z) (d : decode cc pc = .ok (.getfield 15, 3)) (hu : u a = some (.inr (4, fs))) (hv : fs[1]? = some v) (kk : Xw p l e R s m args below meth c G z nL Z (pc + 3) lo (v :: st) u n kc ks) : Xw p l e R s m args below meth c G z nL Z pc lo (.ref (z + a) :: st) u n kc ks := x_get C gdX5 (ci := 4) rfl 1 (by decide) kfX5_15 rfl hu hv d kk
theorem pfX5_15 {x : Nat} (C : Cx p s m args c G RX5 cc nL z) (d : decode cc pc = .ok (.putfield 15, 3)) (hi : meth.name = "<init>") (hu : u a = some (.inr (4, fs))) (hl : 1 < fs.length) (h2 : fs.set 1 (.ref x) = fs2) (hu2 : hup u a (.inr (4, fs2)) = u2) (kk : Xw p l e R s m args below meth c G z nL Z (pc + 3) lo st u2 n kc ks) : Xw p l e R s m args below meth c G z nL Z pc lo (.ref x :: .ref (z + a) :: st) u n kc ks := by
  subst h2; subst hu2
  exact x_putF C gdX5 tyX5 tyX5_ok nmX5 (ci := 4) rfl 1 (by decide) kfX5_15 rfl rfl hi rfl rfl rfl hu hl d kk
theorem gfX5_18 {v : Value} (C : Cx p s m args c G RX5 cc nL z) (d : decode cc pc = .ok (.getfield 18, 3)) (hu : u a = some (.inr (4, fs))) (hv : fs[2]? = some v) (kk : Xw p l e R s m args below meth c G z nL Z (pc + 3) lo (v :: st) u n kc ks) : Xw p l e R s m args below meth c G z nL Z pc lo (.ref (z + a) :: st) u n kc ks := x_get C gdX5 (ci := 4) rfl 2 (by decide) kfX5_18 rfl hu hv d kk
theorem pfX5_18 {x : Nat} (C : Cx p s m args c G RX5 cc nL z) (d : decode cc pc = .ok (.putfield 18, 3)) (hi : meth.name = "<init>") (hu : u a = some (.inr (4, fs))) (hl : 2 < fs.length) (h2 : fs.set 2 (.ref x) = fs2) (hu2 : hup u a (.inr (4, fs2)) = u2) (kk : Xw p l e R s m args below meth c G z nL Z (pc + 3) lo st u2 n kc ks) : Xw p l e R s m args below meth c G z nL Z pc lo (.ref x :: .ref (z + a) :: st) u n kc ks := by
  subst h2; subst hu2
  exact x_putF C gdX5 tyX5 tyX5_ok nmX5 (ci := 4) rfl 2 (by decide) kfX5_18 rfl rfl hi rfl rfl rfl hu hl d kk
theorem gfX5_21 {v : Value} (C : Cx p s m args c G RX5 cc nL z) (d : decode cc pc = .ok (.getfield 21, 3)) (hu : u a = some (.inr (4, fs))) (hv : fs[3]? = some v) (kk : Xw p l e R s m args below meth c G z nL Z (pc + 3) lo (v :: st) u n kc ks) : Xw p l e R s m args below meth c G z nL Z pc lo (.ref (z + a) :: st) u n kc ks := x_get C gdX5 (ci := 4) rfl 3 (by decide) kfX5_21 rfl hu hv d kk
theorem pfX5_21 {x : Nat} (C : Cx p s m args c G RX5 cc nL z) (d : decode cc pc = .ok (.putfield 21, 3)) (hi : meth.name = "<init>") (hu : u a = some (.inr (4, fs))) (hl : 3 < fs.length) (h2 : fs.set 3 (.ref x) = fs2) (hu2 : hup u a (.inr (4, fs2)) = u2) (kk : Xw p l e R s m args below meth c G z nL Z (pc + 3) lo st u2 n kc ks) : Xw p l e R s m args below meth c G z nL Z pc lo (.ref x :: .ref (z + a) :: st) u n kc ks := by
  subst h2; subst hu2
  exact x_putF C gdX5 tyX5 tyX5_ok nmX5 (ci := 4) rfl 3 (by decide) kfX5_21 rfl rfl hi rfl rfl rfl hu hl d kk
theorem gfX5_24 {v : Value} (C : Cx p s m args c G RX5 cc nL z) (d : decode cc pc = .ok (.getfield 24, 3)) (hu : u a = some (.inr (4, fs))) (hv : fs[4]? = some v) (kk : Xw p l e R s m args below meth c G z nL Z (pc + 3) lo (v :: st) u n kc ks) : Xw p l e R s m args below meth c G z nL Z pc lo (.ref (z + a) :: st) u n kc ks := x_get C gdX5 (ci := 4) rfl 4 (by decide) kfX5_24 rfl hu hv d kk
theorem pfX5_24 {x : Int32} (C : Cx p s m args c G RX5 cc nL z) (d : decode cc pc = .ok (.putfield 24, 3)) (hu : u a = some (.inr (4, fs))) (hl : 4 < fs.length) (h2 : fs.set 4 (.int x) = fs2) (hu2 : hup u a (.inr (4, fs2)) = u2) (kk : Xw p l e R s m args below meth c G z nL Z (pc + 3) lo st u2 n kc ks) : Xw p l e R s m args below meth c G z nL Z pc lo (.int x :: .ref (z + a) :: st) u n kc ks := by
  subst h2; subst hu2
  exact x_put C gdX5 tyX5 tyX5_ok nmX5 (ci := 4) rfl 4 (by decide) kfX5_24 rfl rfl rfl rfl hu hl d kk
theorem gfX5_28 {v : Value} (C : Cx p s m args c G RX5 cc nL z) (d : decode cc pc = .ok (.getfield 28, 3)) (hu : u a = some (.inr (4, fs))) (hv : fs[5]? = some v) (kk : Xw p l e R s m args below meth c G z nL Z (pc + 3) lo (v :: st) u n kc ks) : Xw p l e R s m args below meth c G z nL Z pc lo (.ref (z + a) :: st) u n kc ks := x_get C gdX5 (ci := 4) rfl 5 (by decide) kfX5_28 rfl hu hv d kk
theorem pfX5_28 {x : Int32} (C : Cx p s m args c G RX5 cc nL z) (d : decode cc pc = .ok (.putfield 28, 3)) (hu : u a = some (.inr (4, fs))) (hl : 5 < fs.length) (h2 : fs.set 5 (.int x) = fs2) (hu2 : hup u a (.inr (4, fs2)) = u2) (kk : Xw p l e R s m args below meth c G z nL Z (pc + 3) lo st u2 n kc ks) : Xw p l e R s m args below meth c G z nL Z pc lo (.int x :: .ref (z + a) :: st) u n kc ks := by
  subst h2; subst hu2
  exact x_put C gdX5 tyX5 tyX5_ok nmX5 (ci := 4) rfl 5 (by decide) kfX5_28 rfl rfl rfl rfl hu hl d kk
theorem gfX9_303 {v : Value} (C : Cx p s m args c G RX9 cc nL z) (d : decode cc pc = .ok (.getfield 303, 3)) (hu : u a = some (.inr (4, fs))) (hv : fs[5]? = some v) (kk : Xw p l e R s m args below meth c G z nL Z (pc + 3) lo (v :: st) u n kc ks) : Xw p l e R s m args below meth c G z nL Z pc lo (.ref (z + a) :: st) u n kc ks := x_get C gdX5 (ci := 4) rfl 5 (by decide) kfX9_303 rfl hu hv d kk
theorem pfX9_303 {x : Int32} (C : Cx p s m args c G RX9 cc nL z) (d : decode cc pc = .ok (.putfield 303, 3)) (hu : u a = some (.inr (4, fs))) (hl : 5 < fs.length) (h2 : fs.set 5 (.int x) = fs2) (hu2 : hup u a (.inr (4, fs2)) = u2) (kk : Xw p l e R s m args below meth c G z nL Z (pc + 3) lo st u2 n kc ks) : Xw p l e R s m args below meth c G z nL Z pc lo (.int x :: .ref (z + a) :: st) u n kc ks := by
  subst h2; subst hu2
  exact x_put C gdX5 tyX5 tyX5_ok nmX5 (ci := 4) rfl 5 (by decide) kfX9_303 rfl rfl rfl rfl hu hl d kk
theorem gfX5_31 {v : Value} (C : Cx p s m args c G RX5 cc nL z) (d : decode cc pc = .ok (.getfield 31, 3)) (hu : u a = some (.inr (4, fs))) (hv : fs[6]? = some v) (kk : Xw p l e R s m args below meth c G z nL Z (pc + 3) lo (v :: st) u n kc ks) : Xw p l e R s m args below meth c G z nL Z pc lo (.ref (z + a) :: st) u n kc ks := x_get C gdX5 (ci := 4) rfl 6 (by decide) kfX5_31 rfl hu hv d kk
theorem pfX5_31 {x : Int32} (C : Cx p s m args c G RX5 cc nL z) (d : decode cc pc = .ok (.putfield 31, 3)) (hu : u a = some (.inr (4, fs))) (hl : 6 < fs.length) (h2 : fs.set 6 (.int x) = fs2) (hu2 : hup u a (.inr (4, fs2)) = u2) (kk : Xw p l e R s m args below meth c G z nL Z (pc + 3) lo st u2 n kc ks) : Xw p l e R s m args below meth c G z nL Z pc lo (.int x :: .ref (z + a) :: st) u n kc ks := by
  subst h2; subst hu2
  exact x_put C gdX5 tyX5 tyX5_ok nmX5 (ci := 4) rfl 6 (by decide) kfX5_31 rfl rfl rfl rfl hu hl d kk
theorem gfX9_306 {v : Value} (C : Cx p s m args c G RX9 cc nL z) (d : decode cc pc = .ok (.getfield 306, 3)) (hu : u a = some (.inr (4, fs))) (hv : fs[6]? = some v) (kk : Xw p l e R s m args below meth c G z nL Z (pc + 3) lo (v :: st) u n kc ks) : Xw p l e R s m args below meth c G z nL Z pc lo (.ref (z + a) :: st) u n kc ks := x_get C gdX5 (ci := 4) rfl 6 (by decide) kfX9_306 rfl hu hv d kk
theorem pfX9_306 {x : Int32} (C : Cx p s m args c G RX9 cc nL z) (d : decode cc pc = .ok (.putfield 306, 3)) (hu : u a = some (.inr (4, fs))) (hl : 6 < fs.length) (h2 : fs.set 6 (.int x) = fs2) (hu2 : hup u a (.inr (4, fs2)) = u2) (kk : Xw p l e R s m args below meth c G z nL Z (pc + 3) lo st u2 n kc ks) : Xw p l e R s m args below meth c G z nL Z pc lo (.int x :: .ref (z + a) :: st) u n kc ks := by
  subst h2; subst hu2
  exact x_put C gdX5 tyX5 tyX5_ok nmX5 (ci := 4) rfl 6 (by decide) kfX9_306 rfl rfl rfl rfl hu hl d kk
theorem gfX2_21 {v : Value} (C : Cx p s m args c G RX2 cc nL z) (d : decode cc pc = .ok (.getfield 21, 3)) (hu : u a = some (.inr (1, fs))) (hv : fs[0]? = some v) (kk : Xw p l e R s m args below meth c G z nL Z (pc + 3) lo (v :: st) u n kc ks) : Xw p l e R s m args below meth c G z nL Z pc lo (.ref (z + a) :: st) u n kc ks := x_get C gdX2 (ci := 1) rfl 0 (by decide) kfX2_21 rfl hu hv d kk
theorem pfX2_21 {x : Nat} (C : Cx p s m args c G RX2 cc nL z) (d : decode cc pc = .ok (.putfield 21, 3)) (hi : meth.name = "<init>") (hu : u a = some (.inr (1, fs))) (hl : 0 < fs.length) (h2 : fs.set 0 (.ref x) = fs2) (hu2 : hup u a (.inr (1, fs2)) = u2) (kk : Xw p l e R s m args below meth c G z nL Z (pc + 3) lo st u2 n kc ks) : Xw p l e R s m args below meth c G z nL Z pc lo (.ref x :: .ref (z + a) :: st) u n kc ks := by
  subst h2; subst hu2
  exact x_putF C gdX2 tyX2 tyX2_ok nmX2 (ci := 1) rfl 0 (by decide) kfX2_21 rfl rfl hi rfl rfl rfl hu hl d kk
theorem gfX2_25 {v : Value} (C : Cx p s m args c G RX2 cc nL z) (d : decode cc pc = .ok (.getfield 25, 3)) (hu : u a = some (.inr (1, fs))) (hv : fs[1]? = some v) (kk : Xw p l e R s m args below meth c G z nL Z (pc + 3) lo (v :: st) u n kc ks) : Xw p l e R s m args below meth c G z nL Z pc lo (.ref (z + a) :: st) u n kc ks := x_get C gdX2 (ci := 1) rfl 1 (by decide) kfX2_25 rfl hu hv d kk
theorem pfX2_25 {x : Nat} (C : Cx p s m args c G RX2 cc nL z) (d : decode cc pc = .ok (.putfield 25, 3)) (hi : meth.name = "<init>") (hu : u a = some (.inr (1, fs))) (hl : 1 < fs.length) (h2 : fs.set 1 (.ref x) = fs2) (hu2 : hup u a (.inr (1, fs2)) = u2) (kk : Xw p l e R s m args below meth c G z nL Z (pc + 3) lo st u2 n kc ks) : Xw p l e R s m args below meth c G z nL Z pc lo (.ref x :: .ref (z + a) :: st) u n kc ks := by
  subst h2; subst hu2
  exact x_putF C gdX2 tyX2 tyX2_ok nmX2 (ci := 1) rfl 1 (by decide) kfX2_25 rfl rfl hi rfl rfl rfl hu hl d kk
theorem gfX2_9 {v : Value} (C : Cx p s m args c G RX2 cc nL z) (d : decode cc pc = .ok (.getfield 9, 3)) (hu : u a = some (.inr (1, fs))) (hv : fs[2]? = some v) (kk : Xw p l e R s m args below meth c G z nL Z (pc + 3) lo (v :: st) u n kc ks) : Xw p l e R s m args below meth c G z nL Z pc lo (.ref (z + a) :: st) u n kc ks := x_get C gdX2 (ci := 1) rfl 2 (by decide) kfX2_9 rfl hu hv d kk
theorem pfX2_9 {x : Int32} (C : Cx p s m args c G RX2 cc nL z) (d : decode cc pc = .ok (.putfield 9, 3)) (hu : u a = some (.inr (1, fs))) (hl : 2 < fs.length) (h2 : fs.set 2 (.int x) = fs2) (hu2 : hup u a (.inr (1, fs2)) = u2) (kk : Xw p l e R s m args below meth c G z nL Z (pc + 3) lo st u2 n kc ks) : Xw p l e R s m args below meth c G z nL Z pc lo (.int x :: .ref (z + a) :: st) u n kc ks := by
  subst h2; subst hu2
  exact x_put C gdX2 tyX2 tyX2_ok nmX2 (ci := 1) rfl 2 (by decide) kfX2_9 rfl rfl rfl rfl hu hl d kk
theorem gfX9_141 {v : Value} (C : Cx p s m args c G RX9 cc nL z) (d : decode cc pc = .ok (.getfield 141, 3)) (hu : u a = some (.inr (1, fs))) (hv : fs[2]? = some v) (kk : Xw p l e R s m args below meth c G z nL Z (pc + 3) lo (v :: st) u n kc ks) : Xw p l e R s m args below meth c G z nL Z pc lo (.ref (z + a) :: st) u n kc ks := x_get C gdX2 (ci := 1) rfl 2 (by decide) kfX9_141 rfl hu hv d kk
theorem pfX9_141 {x : Int32} (C : Cx p s m args c G RX9 cc nL z) (d : decode cc pc = .ok (.putfield 141, 3)) (hu : u a = some (.inr (1, fs))) (hl : 2 < fs.length) (h2 : fs.set 2 (.int x) = fs2) (hu2 : hup u a (.inr (1, fs2)) = u2) (kk : Xw p l e R s m args below meth c G z nL Z (pc + 3) lo st u2 n kc ks) : Xw p l e R s m args below meth c G z nL Z pc lo (.int x :: .ref (z + a) :: st) u n kc ks := by
  subst h2; subst hu2
  exact x_put C gdX2 tyX2 tyX2_ok nmX2 (ci := 1) rfl 2 (by decide) kfX9_141 rfl rfl rfl rfl hu hl d kk
theorem gfX1_9 {v : Value} (C : Cx p s m args c G RX1 cc nL z) (d : decode cc pc = .ok (.getfield 9, 3)) (hu : u a = some (.inr (0, fs))) (hv : fs[0]? = some v) (kk : Xw p l e R s m args below meth c G z nL Z (pc + 3) lo (v :: st) u n kc ks) : Xw p l e R s m args below meth c G z nL Z pc lo (.ref (z + a) :: st) u n kc ks := x_get C gdX1 (ci := 0) rfl 0 (by decide) kfX1_9 rfl hu hv d kk
theorem pfX1_9 {x : Int32} (C : Cx p s m args c G RX1 cc nL z) (d : decode cc pc = .ok (.putfield 9, 3)) (hu : u a = some (.inr (0, fs))) (hl : 0 < fs.length) (h2 : fs.set 0 (.int x) = fs2) (hu2 : hup u a (.inr (0, fs2)) = u2) (kk : Xw p l e R s m args below meth c G z nL Z (pc + 3) lo st u2 n kc ks) : Xw p l e R s m args below meth c G z nL Z pc lo (.int x :: .ref (z + a) :: st) u n kc ks := by
  subst h2; subst hu2
  exact x_put C gdX1 tyX1 tyX1_ok nmX1 (ci := 0) rfl 0 (by decide) kfX1_9 rfl rfl rfl rfl hu hl d kk
theorem gfX9_117 {v : Value} (C : Cx p s m args c G RX9 cc nL z) (d : decode cc pc = .ok (.getfield 117, 3)) (hu : u a = some (.inr (0, fs))) (hv : fs[0]? = some v) (kk : Xw p l e R s m args below meth c G z nL Z (pc + 3) lo (v :: st) u n kc ks) : Xw p l e R s m args below meth c G z nL Z pc lo (.ref (z + a) :: st) u n kc ks := x_get C gdX1 (ci := 0) rfl 0 (by decide) kfX9_117 rfl hu hv d kk
theorem pfX9_117 {x : Int32} (C : Cx p s m args c G RX9 cc nL z) (d : decode cc pc = .ok (.putfield 117, 3)) (hu : u a = some (.inr (0, fs))) (hl : 0 < fs.length) (h2 : fs.set 0 (.int x) = fs2) (hu2 : hup u a (.inr (0, fs2)) = u2) (kk : Xw p l e R s m args below meth c G z nL Z (pc + 3) lo st u2 n kc ks) : Xw p l e R s m args below meth c G z nL Z pc lo (.int x :: .ref (z + a) :: st) u n kc ks := by
  subst h2; subst hu2
  exact x_put C gdX1 tyX1 tyX1_ok nmX1 (ci := 0) rfl 0 (by decide) kfX9_117 rfl rfl rfl rfl hu hl d kk
theorem gfX7_81 {v : Value} (C : Cx p s m args c G RX7 cc nL z) (d : decode cc pc = .ok (.getfield 81, 3)) (hu : u a = some (.inr (0, fs))) (hv : fs[0]? = some v) (kk : Xw p l e R s m args below meth c G z nL Z (pc + 3) lo (v :: st) u n kc ks) : Xw p l e R s m args below meth c G z nL Z pc lo (.ref (z + a) :: st) u n kc ks := x_get C gdX1 (ci := 0) rfl 0 (by decide) kfX7_81 rfl hu hv d kk
theorem pfX7_81 {x : Int32} (C : Cx p s m args c G RX7 cc nL z) (d : decode cc pc = .ok (.putfield 81, 3)) (hu : u a = some (.inr (0, fs))) (hl : 0 < fs.length) (h2 : fs.set 0 (.int x) = fs2) (hu2 : hup u a (.inr (0, fs2)) = u2) (kk : Xw p l e R s m args below meth c G z nL Z (pc + 3) lo st u2 n kc ks) : Xw p l e R s m args below meth c G z nL Z pc lo (.int x :: .ref (z + a) :: st) u n kc ks := by
  subst h2; subst hu2
  exact x_put C gdX1 tyX1 tyX1_ok nmX1 (ci := 0) rfl 0 (by decide) kfX7_81 rfl rfl rfl rfl hu hl d kk
theorem gfX1_15 {v : Value} (C : Cx p s m args c G RX1 cc nL z) (d : decode cc pc = .ok (.getfield 15, 3)) (hu : u a = some (.inr (0, fs))) (hv : fs[1]? = some v) (kk : Xw p l e R s m args below meth c G z nL Z (pc + 3) lo (v :: st) u n kc ks) : Xw p l e R s m args below meth c G z nL Z pc lo (.ref (z + a) :: st) u n kc ks := x_get C gdX1 (ci := 0) rfl 1 (by decide) kfX1_15 rfl hu hv d kk
theorem pfX1_15 {x : Int32} (C : Cx p s m args c G RX1 cc nL z) (d : decode cc pc = .ok (.putfield 15, 3)) (hu : u a = some (.inr (0, fs))) (hl : 1 < fs.length) (h2 : fs.set 1 (.int x) = fs2) (hu2 : hup u a (.inr (0, fs2)) = u2) (kk : Xw p l e R s m args below meth c G z nL Z (pc + 3) lo st u2 n kc ks) : Xw p l e R s m args below meth c G z nL Z pc lo (.int x :: .ref (z + a) :: st) u n kc ks := by
  subst h2; subst hu2
  exact x_put C gdX1 tyX1 tyX1_ok nmX1 (ci := 0) rfl 1 (by decide) kfX1_15 rfl rfl rfl rfl hu hl d kk
theorem gfX9_120 {v : Value} (C : Cx p s m args c G RX9 cc nL z) (d : decode cc pc = .ok (.getfield 120, 3)) (hu : u a = some (.inr (0, fs))) (hv : fs[1]? = some v) (kk : Xw p l e R s m args below meth c G z nL Z (pc + 3) lo (v :: st) u n kc ks) : Xw p l e R s m args below meth c G z nL Z pc lo (.ref (z + a) :: st) u n kc ks := x_get C gdX1 (ci := 0) rfl 1 (by decide) kfX9_120 rfl hu hv d kk
theorem pfX9_120 {x : Int32} (C : Cx p s m args c G RX9 cc nL z) (d : decode cc pc = .ok (.putfield 120, 3)) (hu : u a = some (.inr (0, fs))) (hl : 1 < fs.length) (h2 : fs.set 1 (.int x) = fs2) (hu2 : hup u a (.inr (0, fs2)) = u2) (kk : Xw p l e R s m args below meth c G z nL Z (pc + 3) lo st u2 n kc ks) : Xw p l e R s m args below meth c G z nL Z pc lo (.int x :: .ref (z + a) :: st) u n kc ks := by
  subst h2; subst hu2
  exact x_put C gdX1 tyX1 tyX1_ok nmX1 (ci := 0) rfl 1 (by decide) kfX9_120 rfl rfl rfl rfl hu hl d kk
theorem gfX7_84 {v : Value} (C : Cx p s m args c G RX7 cc nL z) (d : decode cc pc = .ok (.getfield 84, 3)) (hu : u a = some (.inr (0, fs))) (hv : fs[1]? = some v) (kk : Xw p l e R s m args below meth c G z nL Z (pc + 3) lo (v :: st) u n kc ks) : Xw p l e R s m args below meth c G z nL Z pc lo (.ref (z + a) :: st) u n kc ks := x_get C gdX1 (ci := 0) rfl 1 (by decide) kfX7_84 rfl hu hv d kk
theorem pfX7_84 {x : Int32} (C : Cx p s m args c G RX7 cc nL z) (d : decode cc pc = .ok (.putfield 84, 3)) (hu : u a = some (.inr (0, fs))) (hl : 1 < fs.length) (h2 : fs.set 1 (.int x) = fs2) (hu2 : hup u a (.inr (0, fs2)) = u2) (kk : Xw p l e R s m args below meth c G z nL Z (pc + 3) lo st u2 n kc ks) : Xw p l e R s m args below meth c G z nL Z pc lo (.int x :: .ref (z + a) :: st) u n kc ks := by
  subst h2; subst hu2
  exact x_put C gdX1 tyX1 tyX1_ok nmX1 (ci := 0) rfl 1 (by decide) kfX7_84 rfl rfl rfl rfl hu hl d kk
theorem gfX1_18 {v : Value} (C : Cx p s m args c G RX1 cc nL z) (d : decode cc pc = .ok (.getfield 18, 3)) (hu : u a = some (.inr (0, fs))) (hv : fs[2]? = some v) (kk : Xw p l e R s m args below meth c G z nL Z (pc + 3) lo (v :: st) u n kc ks) : Xw p l e R s m args below meth c G z nL Z pc lo (.ref (z + a) :: st) u n kc ks := x_get C gdX1 (ci := 0) rfl 2 (by decide) kfX1_18 rfl hu hv d kk
theorem pfX1_18 {x : Int32} (C : Cx p s m args c G RX1 cc nL z) (d : decode cc pc = .ok (.putfield 18, 3)) (hu : u a = some (.inr (0, fs))) (hl : 2 < fs.length) (h2 : fs.set 2 (.int x) = fs2) (hu2 : hup u a (.inr (0, fs2)) = u2) (kk : Xw p l e R s m args below meth c G z nL Z (pc + 3) lo st u2 n kc ks) : Xw p l e R s m args below meth c G z nL Z pc lo (.int x :: .ref (z + a) :: st) u n kc ks := by
  subst h2; subst hu2
  exact x_put C gdX1 tyX1 tyX1_ok nmX1 (ci := 0) rfl 2 (by decide) kfX1_18 rfl rfl rfl rfl hu hl d kk
theorem gfX8_25 {v : Value} (C : Cx p s m args c G RX8 cc nL z) (d : decode cc pc = .ok (.getfield 25, 3)) (hu : u a = some (.inr (0, fs))) (hv : fs[2]? = some v) (kk : Xw p l e R s m args below meth c G z nL Z (pc + 3) lo (v :: st) u n kc ks) : Xw p l e R s m args below meth c G z nL Z pc lo (.ref (z + a) :: st) u n kc ks := x_get C gdX1 (ci := 0) rfl 2 (by decide) kfX8_25 rfl hu hv d kk
theorem pfX8_25 {x : Int32} (C : Cx p s m args c G RX8 cc nL z) (d : decode cc pc = .ok (.putfield 25, 3)) (hu : u a = some (.inr (0, fs))) (hl : 2 < fs.length) (h2 : fs.set 2 (.int x) = fs2) (hu2 : hup u a (.inr (0, fs2)) = u2) (kk : Xw p l e R s m args below meth c G z nL Z (pc + 3) lo st u2 n kc ks) : Xw p l e R s m args below meth c G z nL Z pc lo (.int x :: .ref (z + a) :: st) u n kc ks := by
  subst h2; subst hu2
  exact x_put C gdX1 tyX1 tyX1_ok nmX1 (ci := 0) rfl 2 (by decide) kfX8_25 rfl rfl rfl rfl hu hl d kk
theorem gfX3_49 {v : Value} (C : Cx p s m args c G RX3 cc nL z) (d : decode cc pc = .ok (.getfield 49, 3)) (hu : u a = some (.inr (0, fs))) (hv : fs[2]? = some v) (kk : Xw p l e R s m args below meth c G z nL Z (pc + 3) lo (v :: st) u n kc ks) : Xw p l e R s m args below meth c G z nL Z pc lo (.ref (z + a) :: st) u n kc ks := x_get C gdX1 (ci := 0) rfl 2 (by decide) kfX3_49 rfl hu hv d kk
theorem pfX3_49 {x : Int32} (C : Cx p s m args c G RX3 cc nL z) (d : decode cc pc = .ok (.putfield 49, 3)) (hu : u a = some (.inr (0, fs))) (hl : 2 < fs.length) (h2 : fs.set 2 (.int x) = fs2) (hu2 : hup u a (.inr (0, fs2)) = u2) (kk : Xw p l e R s m args below meth c G z nL Z (pc + 3) lo st u2 n kc ks) : Xw p l e R s m args below meth c G z nL Z pc lo (.int x :: .ref (z + a) :: st) u n kc ks := by
  subst h2; subst hu2
  exact x_put C gdX1 tyX1 tyX1_ok nmX1 (ci := 0) rfl 2 (by decide) kfX3_49 rfl rfl rfl rfl hu hl d kk
theorem gfX0_27 {v : Value} (C : Cx p s m args c G RX0 cc nL z) (d : decode cc pc = .ok (.getfield 27, 3)) (hu : u a = some (.inr (0, fs))) (hv : fs[2]? = some v) (kk : Xw p l e R s m args below meth c G z nL Z (pc + 3) lo (v :: st) u n kc ks) : Xw p l e R s m args below meth c G z nL Z pc lo (.ref (z + a) :: st) u n kc ks := x_get C gdX1 (ci := 0) rfl 2 (by decide) kfX0_27 rfl hu hv d kk
theorem pfX0_27 {x : Int32} (C : Cx p s m args c G RX0 cc nL z) (d : decode cc pc = .ok (.putfield 27, 3)) (hu : u a = some (.inr (0, fs))) (hl : 2 < fs.length) (h2 : fs.set 2 (.int x) = fs2) (hu2 : hup u a (.inr (0, fs2)) = u2) (kk : Xw p l e R s m args below meth c G z nL Z (pc + 3) lo st u2 n kc ks) : Xw p l e R s m args below meth c G z nL Z pc lo (.int x :: .ref (z + a) :: st) u n kc ks := by
  subst h2; subst hu2
  exact x_put C gdX1 tyX1 tyX1_ok nmX1 (ci := 0) rfl 2 (by decide) kfX0_27 rfl rfl rfl rfl hu hl d kk
theorem gfX2_28 {v : Value} (C : Cx p s m args c G RX2 cc nL z) (d : decode cc pc = .ok (.getfield 28, 3)) (hu : u a = some (.inr (0, fs))) (hv : fs[2]? = some v) (kk : Xw p l e R s m args below meth c G z nL Z (pc + 3) lo (v :: st) u n kc ks) : Xw p l e R s m args below meth c G z nL Z pc lo (.ref (z + a) :: st) u n kc ks := x_get C gdX1 (ci := 0) rfl 2 (by decide) kfX2_28 rfl hu hv d kk
theorem pfX2_28 {x : Int32} (C : Cx p s m args c G RX2 cc nL z) (d : decode cc pc = .ok (.putfield 28, 3)) (hu : u a = some (.inr (0, fs))) (hl : 2 < fs.length) (h2 : fs.set 2 (.int x) = fs2) (hu2 : hup u a (.inr (0, fs2)) = u2) (kk : Xw p l e R s m args below meth c G z nL Z (pc + 3) lo st u2 n kc ks) : Xw p l e R s m args below meth c G z nL Z pc lo (.int x :: .ref (z + a) :: st) u n kc ks := by
  subst h2; subst hu2
  exact x_put C gdX1 tyX1 tyX1_ok nmX1 (ci := 0) rfl 2 (by decide) kfX2_28 rfl rfl rfl rfl hu hl d kk
theorem gfX9_123 {v : Value} (C : Cx p s m args c G RX9 cc nL z) (d : decode cc pc = .ok (.getfield 123, 3)) (hu : u a = some (.inr (0, fs))) (hv : fs[2]? = some v) (kk : Xw p l e R s m args below meth c G z nL Z (pc + 3) lo (v :: st) u n kc ks) : Xw p l e R s m args below meth c G z nL Z pc lo (.ref (z + a) :: st) u n kc ks := x_get C gdX1 (ci := 0) rfl 2 (by decide) kfX9_123 rfl hu hv d kk
theorem pfX9_123 {x : Int32} (C : Cx p s m args c G RX9 cc nL z) (d : decode cc pc = .ok (.putfield 123, 3)) (hu : u a = some (.inr (0, fs))) (hl : 2 < fs.length) (h2 : fs.set 2 (.int x) = fs2) (hu2 : hup u a (.inr (0, fs2)) = u2) (kk : Xw p l e R s m args below meth c G z nL Z (pc + 3) lo st u2 n kc ks) : Xw p l e R s m args below meth c G z nL Z pc lo (.int x :: .ref (z + a) :: st) u n kc ks := by
  subst h2; subst hu2
  exact x_put C gdX1 tyX1 tyX1_ok nmX1 (ci := 0) rfl 2 (by decide) kfX9_123 rfl rfl rfl rfl hu hl d kk
theorem gfX7_68 {v : Value} (C : Cx p s m args c G RX7 cc nL z) (d : decode cc pc = .ok (.getfield 68, 3)) (hu : u a = some (.inr (0, fs))) (hv : fs[2]? = some v) (kk : Xw p l e R s m args below meth c G z nL Z (pc + 3) lo (v :: st) u n kc ks) : Xw p l e R s m args below meth c G z nL Z pc lo (.ref (z + a) :: st) u n kc ks := x_get C gdX1 (ci := 0) rfl 2 (by decide) kfX7_68 rfl hu hv d kk
theorem pfX7_68 {x : Int32} (C : Cx p s m args c G RX7 cc nL z) (d : decode cc pc = .ok (.putfield 68, 3)) (hu : u a = some (.inr (0, fs))) (hl : 2 < fs.length) (h2 : fs.set 2 (.int x) = fs2) (hu2 : hup u a (.inr (0, fs2)) = u2) (kk : Xw p l e R s m args below meth c G z nL Z (pc + 3) lo st u2 n kc ks) : Xw p l e R s m args below meth c G z nL Z pc lo (.int x :: .ref (z + a) :: st) u n kc ks := by
  subst h2; subst hu2
  exact x_put C gdX1 tyX1 tyX1_ok nmX1 (ci := 0) rfl 2 (by decide) kfX7_68 rfl rfl rfl rfl hu hl d kk
theorem gfX1_21 {v : Value} (C : Cx p s m args c G RX1 cc nL z) (d : decode cc pc = .ok (.getfield 21, 3)) (hu : u a = some (.inr (0, fs))) (hv : fs[3]? = some v) (kk : Xw p l e R s m args below meth c G z nL Z (pc + 3) lo (v :: st) u n kc ks) : Xw p l e R s m args below meth c G z nL Z pc lo (.ref (z + a) :: st) u n kc ks := x_get C gdX1 (ci := 0) rfl 3 (by decide) kfX1_21 rfl hu hv d kk
theorem pfX1_21 {x : Int32} (C : Cx p s m args c G RX1 cc nL z) (d : decode cc pc = .ok (.putfield 21, 3)) (hu : u a = some (.inr (0, fs))) (hl : 3 < fs.length) (h2 : fs.set 3 (.int x) = fs2) (hu2 : hup u a (.inr (0, fs2)) = u2) (kk : Xw p l e R s m args below meth c G z nL Z (pc + 3) lo st u2 n kc ks) : Xw p l e R s m args below meth c G z nL Z pc lo (.int x :: .ref (z + a) :: st) u n kc ks := by
  subst h2; subst hu2
  exact x_put C gdX1 tyX1 tyX1_ok nmX1 (ci := 0) rfl 3 (by decide) kfX1_21 rfl rfl rfl rfl hu hl d kk
theorem gfX5_34 {v : Value} (C : Cx p s m args c G RX5 cc nL z) (d : decode cc pc = .ok (.getfield 34, 3)) (hu : u a = some (.inr (0, fs))) (hv : fs[3]? = some v) (kk : Xw p l e R s m args below meth c G z nL Z (pc + 3) lo (v :: st) u n kc ks) : Xw p l e R s m args below meth c G z nL Z pc lo (.ref (z + a) :: st) u n kc ks := x_get C gdX1 (ci := 0) rfl 3 (by decide) kfX5_34 rfl hu hv d kk
theorem pfX5_34 {x : Int32} (C : Cx p s m args c G RX5 cc nL z) (d : decode cc pc = .ok (.putfield 34, 3)) (hu : u a = some (.inr (0, fs))) (hl : 3 < fs.length) (h2 : fs.set 3 (.int x) = fs2) (hu2 : hup u a (.inr (0, fs2)) = u2) (kk : Xw p l e R s m args below meth c G z nL Z (pc + 3) lo st u2 n kc ks) : Xw p l e R s m args below meth c G z nL Z pc lo (.int x :: .ref (z + a) :: st) u n kc ks := by
  subst h2; subst hu2
  exact x_put C gdX1 tyX1 tyX1_ok nmX1 (ci := 0) rfl 3 (by decide) kfX5_34 rfl rfl rfl rfl hu hl d kk
theorem gfX0_15 {v : Value} (C : Cx p s m args c G RX0 cc nL z) (d : decode cc pc = .ok (.getfield 15, 3)) (hu : u a = some (.inr (0, fs))) (hv : fs[3]? = some v) (kk : Xw p l e R s m args below meth c G z nL Z (pc + 3) lo (v :: st) u n kc ks) : Xw p l e R s m args below meth c G z nL Z pc lo (.ref (z + a) :: st) u n kc ks := x_get C gdX1 (ci := 0) rfl 3 (by decide) kfX0_15 rfl hu hv d kk
theorem pfX0_15 {x : Int32} (C : Cx p s m args c G RX0 cc nL z) (d : decode cc pc = .ok (.putfield 15, 3)) (hu : u a = some (.inr (0, fs))) (hl : 3 < fs.length) (h2 : fs.set 3 (.int x) = fs2) (hu2 : hup u a (.inr (0, fs2)) = u2) (kk : Xw p l e R s m args below meth c G z nL Z (pc + 3) lo st u2 n kc ks) : Xw p l e R s m args below meth c G z nL Z pc lo (.int x :: .ref (z + a) :: st) u n kc ks := by
  subst h2; subst hu2
  exact x_put C gdX1 tyX1 tyX1_ok nmX1 (ci := 0) rfl 3 (by decide) kfX0_15 rfl rfl rfl rfl hu hl d kk
theorem gfX3_61 {v : Value} (C : Cx p s m args c G RX3 cc nL z) (d : decode cc pc = .ok (.getfield 61, 3)) (hu : u a = some (.inr (0, fs))) (hv : fs[3]? = some v) (kk : Xw p l e R s m args below meth c G z nL Z (pc + 3) lo (v :: st) u n kc ks) : Xw p l e R s m args below meth c G z nL Z pc lo (.ref (z + a) :: st) u n kc ks := x_get C gdX1 (ci := 0) rfl 3 (by decide) kfX3_61 rfl hu hv d kk
theorem pfX3_61 {x : Int32} (C : Cx p s m args c G RX3 cc nL z) (d : decode cc pc = .ok (.putfield 61, 3)) (hu : u a = some (.inr (0, fs))) (hl : 3 < fs.length) (h2 : fs.set 3 (.int x) = fs2) (hu2 : hup u a (.inr (0, fs2)) = u2) (kk : Xw p l e R s m args below meth c G z nL Z (pc + 3) lo st u2 n kc ks) : Xw p l e R s m args below meth c G z nL Z pc lo (.int x :: .ref (z + a) :: st) u n kc ks := by
  subst h2; subst hu2
  exact x_put C gdX1 tyX1 tyX1_ok nmX1 (ci := 0) rfl 3 (by decide) kfX3_61 rfl rfl rfl rfl hu hl d kk
theorem gfX9_103 {v : Value} (C : Cx p s m args c G RX9 cc nL z) (d : decode cc pc = .ok (.getfield 103, 3)) (hu : u a = some (.inr (0, fs))) (hv : fs[3]? = some v) (kk : Xw p l e R s m args below meth c G z nL Z (pc + 3) lo (v :: st) u n kc ks) : Xw p l e R s m args below meth c G z nL Z pc lo (.ref (z + a) :: st) u n kc ks := x_get C gdX1 (ci := 0) rfl 3 (by decide) kfX9_103 rfl hu hv d kk
theorem pfX9_103 {x : Int32} (C : Cx p s m args c G RX9 cc nL z) (d : decode cc pc = .ok (.putfield 103, 3)) (hu : u a = some (.inr (0, fs))) (hl : 3 < fs.length) (h2 : fs.set 3 (.int x) = fs2) (hu2 : hup u a (.inr (0, fs2)) = u2) (kk : Xw p l e R s m args below meth c G z nL Z (pc + 3) lo st u2 n kc ks) : Xw p l e R s m args below meth c G z nL Z pc lo (.int x :: .ref (z + a) :: st) u n kc ks := by
  subst h2; subst hu2
  exact x_put C gdX1 tyX1 tyX1_ok nmX1 (ci := 0) rfl 3 (by decide) kfX9_103 rfl rfl rfl rfl hu hl d kk
theorem gfX8_53 {v : Value} (C : Cx p s m args c G RX8 cc nL z) (d : decode cc pc = .ok (.getfield 53, 3)) (hu : u a = some (.inr (0, fs))) (hv : fs[3]? = some v) (kk : Xw p l e R s m args below meth c G z nL Z (pc + 3) lo (v :: st) u n kc ks) : Xw p l e R s m args below meth c G z nL Z pc lo (.ref (z + a) :: st) u n kc ks := x_get C gdX1 (ci := 0) rfl 3 (by decide) kfX8_53 rfl hu hv d kk
theorem pfX8_53 {x : Int32} (C : Cx p s m args c G RX8 cc nL z) (d : decode cc pc = .ok (.putfield 53, 3)) (hu : u a = some (.inr (0, fs))) (hl : 3 < fs.length) (h2 : fs.set 3 (.int x) = fs2) (hu2 : hup u a (.inr (0, fs2)) = u2) (kk : Xw p l e R s m args below meth c G z nL Z (pc + 3) lo st u2 n kc ks) : Xw p l e R s m args below meth c G z nL Z pc lo (.int x :: .ref (z + a) :: st) u n kc ks := by
  subst h2; subst hu2
  exact x_put C gdX1 tyX1 tyX1_ok nmX1 (ci := 0) rfl 3 (by decide) kfX8_53 rfl rfl rfl rfl hu hl d kk
theorem gfX7_71 {v : Value} (C : Cx p s m args c G RX7 cc nL z) (d : decode cc pc = .ok (.getfield 71, 3)) (hu : u a = some (.inr (0, fs))) (hv : fs[3]? = some v) (kk : Xw p l e R s m args below meth c G z nL Z (pc + 3) lo (v :: st) u n kc ks) : Xw p l e R s m args below meth c G z nL Z pc lo (.ref (z + a) :: st) u n kc ks := x_get C gdX1 (ci := 0) rfl 3 (by decide) kfX7_71 rfl hu hv d kk
theorem pfX7_71 {x : Int32} (C : Cx p s m args c G RX7 cc nL z) (d : decode cc pc = .ok (.putfield 71, 3)) (hu : u a = some (.inr (0, fs))) (hl : 3 < fs.length) (h2 : fs.set 3 (.int x) = fs2) (hu2 : hup u a (.inr (0, fs2)) = u2) (kk : Xw p l e R s m args below meth c G z nL Z (pc + 3) lo st u2 n kc ks) : Xw p l e R s m args below meth c G z nL Z pc lo (.int x :: .ref (z + a) :: st) u n kc ks := by
  subst h2; subst hu2
  exact x_put C gdX1 tyX1 tyX1_ok nmX1 (ci := 0) rfl 3 (by decide) kfX7_71 rfl rfl rfl rfl hu hl d kk
theorem gfX1_24 {v : Value} (C : Cx p s m args c G RX1 cc nL z) (d : decode cc pc = .ok (.getfield 24, 3)) (hu : u a = some (.inr (0, fs))) (hv : fs[4]? = some v) (kk : Xw p l e R s m args below meth c G z nL Z (pc + 3) lo (v :: st) u n kc ks) : Xw p l e R s m args below meth c G z nL Z pc lo (.ref (z + a) :: st) u n kc ks := x_get C gdX1 (ci := 0) rfl 4 (by decide) kfX1_24 rfl hu hv d kk
theorem pfX1_24 {x : Nat} (C : Cx p s m args c G RX1 cc nL z) (d : decode cc pc = .ok (.putfield 24, 3)) (hi : meth.name = "<init>") (hu : u a = some (.inr (0, fs))) (hl : 4 < fs.length) (h2 : fs.set 4 (.ref x) = fs2) (hu2 : hup u a (.inr (0, fs2)) = u2) (kk : Xw p l e R s m args below meth c G z nL Z (pc + 3) lo st u2 n kc ks) : Xw p l e R s m args below meth c G z nL Z pc lo (.ref x :: .ref (z + a) :: st) u n kc ks := by
  subst h2; subst hu2
  exact x_putF C gdX1 tyX1 tyX1_ok nmX1 (ci := 0) rfl 4 (by decide) kfX1_24 rfl rfl hi rfl rfl rfl hu hl d kk
theorem gfX9_180 {v : Value} (C : Cx p s m args c G RX9 cc nL z) (d : decode cc pc = .ok (.getfield 180, 3)) (hu : u a = some (.inr (0, fs))) (hv : fs[4]? = some v) (kk : Xw p l e R s m args below meth c G z nL Z (pc + 3) lo (v :: st) u n kc ks) : Xw p l e R s m args below meth c G z nL Z pc lo (.ref (z + a) :: st) u n kc ks := x_get C gdX1 (ci := 0) rfl 4 (by decide) kfX9_180 rfl hu hv d kk
theorem gfX1_28 {v : Value} (C : Cx p s m args c G RX1 cc nL z) (d : decode cc pc = .ok (.getfield 28, 3)) (hu : u a = some (.inr (0, fs))) (hv : fs[5]? = some v) (kk : Xw p l e R s m args below meth c G z nL Z (pc + 3) lo (v :: st) u n kc ks) : Xw p l e R s m args below meth c G z nL Z pc lo (.ref (z + a) :: st) u n kc ks := x_get C gdX1 (ci := 0) rfl 5 (by decide) kfX1_28 rfl hu hv d kk
theorem pfX1_28 {x : Nat} (C : Cx p s m args c G RX1 cc nL z) (d : decode cc pc = .ok (.putfield 28, 3)) (hi : meth.name = "<init>") (hu : u a = some (.inr (0, fs))) (hl : 5 < fs.length) (h2 : fs.set 5 (.ref x) = fs2) (hu2 : hup u a (.inr (0, fs2)) = u2) (kk : Xw p l e R s m args below meth c G z nL Z (pc + 3) lo st u2 n kc ks) : Xw p l e R s m args below meth c G z nL Z pc lo (.ref x :: .ref (z + a) :: st) u n kc ks := by
  subst h2; subst hu2
  exact x_putF C gdX1 tyX1 tyX1_ok nmX1 (ci := 0) rfl 5 (by decide) kfX1_28 rfl rfl hi rfl rfl rfl hu hl d kk
theorem gfX9_184 {v : Value} (C : Cx p s m args c G RX9 cc nL z) (d : decode cc pc = .ok (.getfield 184, 3)) (hu : u a = some (.inr (0, fs))) (hv : fs[5]? = some v) (kk : Xw p l e R s m args below meth c G z nL Z (pc + 3) lo (v :: st) u n kc ks) : Xw p l e R s m args below meth c G z nL Z pc lo (.ref (z + a) :: st) u n kc ks := x_get C gdX1 (ci := 0) rfl 5 (by decide) kfX9_184 rfl hu hv d kk
theorem gfX3_95 {v : Value} (C : Cx p s m args c G RX3 cc nL z) (d : decode cc pc = .ok (.getfield 95, 3)) (hu : u a = some (.inr (0, fs))) (hv : fs[5]? = some v) (kk : Xw p l e R s m args below meth c G z nL Z (pc + 3) lo (v :: st) u n kc ks) : Xw p l e R s m args below meth c G z nL Z pc lo (.ref (z + a) :: st) u n kc ks := x_get C gdX1 (ci := 0) rfl 5 (by decide) kfX3_95 rfl hu hv d kk
theorem gfX1_31 {v : Value} (C : Cx p s m args c G RX1 cc nL z) (d : decode cc pc = .ok (.getfield 31, 3)) (hu : u a = some (.inr (0, fs))) (hv : fs[6]? = some v) (kk : Xw p l e R s m args below meth c G z nL Z (pc + 3) lo (v :: st) u n kc ks) : Xw p l e R s m args below meth c G z nL Z pc lo (.ref (z + a) :: st) u n kc ks := x_get C gdX1 (ci := 0) rfl 6 (by decide) kfX1_31 rfl hu hv d kk
theorem pfX1_31 {x : Nat} (C : Cx p s m args c G RX1 cc nL z) (d : decode cc pc = .ok (.putfield 31, 3)) (hi : meth.name = "<init>") (hu : u a = some (.inr (0, fs))) (hl : 6 < fs.length) (h2 : fs.set 6 (.ref x) = fs2) (hu2 : hup u a (.inr (0, fs2)) = u2) (kk : Xw p l e R s m args below meth c G z nL Z (pc + 3) lo st u2 n kc ks) : Xw p l e R s m args below meth c G z nL Z pc lo (.ref x :: .ref (z + a) :: st) u n kc ks := by
  subst h2; subst hu2
  exact x_putF C gdX1 tyX1 tyX1_ok nmX1 (ci := 0) rfl 6 (by decide) kfX1_31 rfl rfl hi rfl rfl rfl hu hl d kk
theorem gfX9_196 {v : Value} (C : Cx p s m args c G RX9 cc nL z) (d : decode cc pc = .ok (.getfield 196, 3)) (hu : u a = some (.inr (0, fs))) (hv : fs[6]? = some v) (kk : Xw p l e R s m args below meth c G z nL Z (pc + 3) lo (v :: st) u n kc ks) : Xw p l e R s m args below meth c G z nL Z pc lo (.ref (z + a) :: st) u n kc ks := x_get C gdX1 (ci := 0) rfl 6 (by decide) kfX9_196 rfl hu hv d kk
theorem gfX1_34 {v : Value} (C : Cx p s m args c G RX1 cc nL z) (d : decode cc pc = .ok (.getfield 34, 3)) (hu : u a = some (.inr (0, fs))) (hv : fs[7]? = some v) (kk : Xw p l e R s m args below meth c G z nL Z (pc + 3) lo (v :: st) u n kc ks) : Xw p l e R s m args below meth c G z nL Z pc lo (.ref (z + a) :: st) u n kc ks := x_get C gdX1 (ci := 0) rfl 7 (by decide) kfX1_34 rfl hu hv d kk
theorem pfX1_34 {x : Nat} (C : Cx p s m args c G RX1 cc nL z) (d : decode cc pc = .ok (.putfield 34, 3)) (hi : meth.name = "<init>") (hu : u a = some (.inr (0, fs))) (hl : 7 < fs.length) (h2 : fs.set 7 (.ref x) = fs2) (hu2 : hup u a (.inr (0, fs2)) = u2) (kk : Xw p l e R s m args below meth c G z nL Z (pc + 3) lo st u2 n kc ks) : Xw p l e R s m args below meth c G z nL Z pc lo (.ref x :: .ref (z + a) :: st) u n kc ks := by
  subst h2; subst hu2
  exact x_putF C gdX1 tyX1 tyX1_ok nmX1 (ci := 0) rfl 7 (by decide) kfX1_34 rfl rfl hi rfl rfl rfl hu hl d kk
theorem gfX9_199 {v : Value} (C : Cx p s m args c G RX9 cc nL z) (d : decode cc pc = .ok (.getfield 199, 3)) (hu : u a = some (.inr (0, fs))) (hv : fs[7]? = some v) (kk : Xw p l e R s m args below meth c G z nL Z (pc + 3) lo (v :: st) u n kc ks) : Xw p l e R s m args below meth c G z nL Z pc lo (.ref (z + a) :: st) u n kc ks := x_get C gdX1 (ci := 0) rfl 7 (by decide) kfX9_199 rfl hu hv d kk
theorem gfX1_37 {v : Value} (C : Cx p s m args c G RX1 cc nL z) (d : decode cc pc = .ok (.getfield 37, 3)) (hu : u a = some (.inr (0, fs))) (hv : fs[8]? = some v) (kk : Xw p l e R s m args below meth c G z nL Z (pc + 3) lo (v :: st) u n kc ks) : Xw p l e R s m args below meth c G z nL Z pc lo (.ref (z + a) :: st) u n kc ks := x_get C gdX1 (ci := 0) rfl 8 (by decide) kfX1_37 rfl hu hv d kk
theorem pfX1_37 {x : Nat} (C : Cx p s m args c G RX1 cc nL z) (d : decode cc pc = .ok (.putfield 37, 3)) (hi : meth.name = "<init>") (hu : u a = some (.inr (0, fs))) (hl : 8 < fs.length) (h2 : fs.set 8 (.ref x) = fs2) (hu2 : hup u a (.inr (0, fs2)) = u2) (kk : Xw p l e R s m args below meth c G z nL Z (pc + 3) lo st u2 n kc ks) : Xw p l e R s m args below meth c G z nL Z pc lo (.ref x :: .ref (z + a) :: st) u n kc ks := by
  subst h2; subst hu2
  exact x_putF C gdX1 tyX1 tyX1_ok nmX1 (ci := 0) rfl 8 (by decide) kfX1_37 rfl rfl hi rfl rfl rfl hu hl d kk
theorem gfX9_202 {v : Value} (C : Cx p s m args c G RX9 cc nL z) (d : decode cc pc = .ok (.getfield 202, 3)) (hu : u a = some (.inr (0, fs))) (hv : fs[8]? = some v) (kk : Xw p l e R s m args below meth c G z nL Z (pc + 3) lo (v :: st) u n kc ks) : Xw p l e R s m args below meth c G z nL Z pc lo (.ref (z + a) :: st) u n kc ks := x_get C gdX1 (ci := 0) rfl 8 (by decide) kfX9_202 rfl hu hv d kk
theorem gfX3_110 {v : Value} (C : Cx p s m args c G RX3 cc nL z) (d : decode cc pc = .ok (.getfield 110, 3)) (hu : u a = some (.inr (0, fs))) (hv : fs[8]? = some v) (kk : Xw p l e R s m args below meth c G z nL Z (pc + 3) lo (v :: st) u n kc ks) : Xw p l e R s m args below meth c G z nL Z pc lo (.ref (z + a) :: st) u n kc ks := x_get C gdX1 (ci := 0) rfl 8 (by decide) kfX3_110 rfl hu hv d kk
theorem gfX1_40 {v : Value} (C : Cx p s m args c G RX1 cc nL z) (d : decode cc pc = .ok (.getfield 40, 3)) (hu : u a = some (.inr (0, fs))) (hv : fs[9]? = some v) (kk : Xw p l e R s m args below meth c G z nL Z (pc + 3) lo (v :: st) u n kc ks) : Xw p l e R s m args below meth c G z nL Z pc lo (.ref (z + a) :: st) u n kc ks := x_get C gdX1 (ci := 0) rfl 9 (by decide) kfX1_40 rfl hu hv d kk
theorem pfX1_40 {x : Nat} (C : Cx p s m args c G RX1 cc nL z) (d : decode cc pc = .ok (.putfield 40, 3)) (hi : meth.name = "<init>") (hu : u a = some (.inr (0, fs))) (hl : 9 < fs.length) (h2 : fs.set 9 (.ref x) = fs2) (hu2 : hup u a (.inr (0, fs2)) = u2) (kk : Xw p l e R s m args below meth c G z nL Z (pc + 3) lo st u2 n kc ks) : Xw p l e R s m args below meth c G z nL Z pc lo (.ref x :: .ref (z + a) :: st) u n kc ks := by
  subst h2; subst hu2
  exact x_putF C gdX1 tyX1 tyX1_ok nmX1 (ci := 0) rfl 9 (by decide) kfX1_40 rfl rfl hi rfl rfl rfl hu hl d kk
theorem gfX8_41 {v : Value} (C : Cx p s m args c G RX8 cc nL z) (d : decode cc pc = .ok (.getfield 41, 3)) (hu : u a = some (.inr (0, fs))) (hv : fs[9]? = some v) (kk : Xw p l e R s m args below meth c G z nL Z (pc + 3) lo (v :: st) u n kc ks) : Xw p l e R s m args below meth c G z nL Z pc lo (.ref (z + a) :: st) u n kc ks := x_get C gdX1 (ci := 0) rfl 9 (by decide) kfX8_41 rfl hu hv d kk
theorem gfX4_10 {v : Value} (C : Cx p s m args c G RX4 cc nL z) (d : decode cc pc = .ok (.getfield 10, 3)) (hu : u a = some (.inr (3, fs))) (hv : fs[0]? = some v) (kk : Xw p l e R s m args below meth c G z nL Z (pc + 3) lo (v :: st) u n kc ks) : Xw p l e R s m args below meth c G z nL Z pc lo (.ref (z + a) :: st) u n kc ks := x_get C gdX4 (ci := 3) rfl 0 (by decide) kfX4_10 rfl hu hv d kk
theorem pfX4_10 {x : Nat} (C : Cx p s m args c G RX4 cc nL z) (d : decode cc pc = .ok (.putfield 10, 3)) (hi : meth.name = "<init>") (hu : u a = some (.inr (3, fs))) (hl : 0 < fs.length) (h2 : fs.set 0 (.ref x) = fs2) (hu2 : hup u a (.inr (3, fs2)) = u2) (kk : Xw p l e R s m args below meth c G z nL Z (pc + 3) lo st u2 n kc ks) : Xw p l e R s m args below meth c G z nL Z pc lo (.ref x :: .ref (z + a) :: st) u n kc ks := by
  subst h2; subst hu2
  exact x_putF C gdX4 tyX4 tyX4_ok nmX4 (ci := 3) rfl 0 (by decide) kfX4_10 rfl rfl hi rfl rfl rfl hu hl d kk
theorem gfX9_327 {v : Value} (C : Cx p s m args c G RX9 cc nL z) (d : decode cc pc = .ok (.getfield 327, 3)) (hu : u a = some (.inr (3, fs))) (hv : fs[0]? = some v) (kk : Xw p l e R s m args below meth c G z nL Z (pc + 3) lo (v :: st) u n kc ks) : Xw p l e R s m args below meth c G z nL Z pc lo (.ref (z + a) :: st) u n kc ks := x_get C gdX4 (ci := 3) rfl 0 (by decide) kfX9_327 rfl hu hv d kk
theorem gfX4_16 {v : Value} (C : Cx p s m args c G RX4 cc nL z) (d : decode cc pc = .ok (.getfield 16, 3)) (hu : u a = some (.inr (3, fs))) (hv : fs[1]? = some v) (kk : Xw p l e R s m args below meth c G z nL Z (pc + 3) lo (v :: st) u n kc ks) : Xw p l e R s m args below meth c G z nL Z pc lo (.ref (z + a) :: st) u n kc ks := x_get C gdX4 (ci := 3) rfl 1 (by decide) kfX4_16 rfl hu hv d kk
theorem pfX4_16 {x : Int32} (C : Cx p s m args c G RX4 cc nL z) (d : decode cc pc = .ok (.putfield 16, 3)) (hu : u a = some (.inr (3, fs))) (hl : 1 < fs.length) (h2 : fs.set 1 (.int x) = fs2) (hu2 : hup u a (.inr (3, fs2)) = u2) (kk : Xw p l e R s m args below meth c G z nL Z (pc + 3) lo st u2 n kc ks) : Xw p l e R s m args below meth c G z nL Z pc lo (.int x :: .ref (z + a) :: st) u n kc ks := by
  subst h2; subst hu2
  exact x_put C gdX4 tyX4 tyX4_ok nmX4 (ci := 3) rfl 1 (by decide) kfX4_16 rfl rfl rfl rfl hu hl d kk
theorem gfX9_331 {v : Value} (C : Cx p s m args c G RX9 cc nL z) (d : decode cc pc = .ok (.getfield 331, 3)) (hu : u a = some (.inr (3, fs))) (hv : fs[1]? = some v) (kk : Xw p l e R s m args below meth c G z nL Z (pc + 3) lo (v :: st) u n kc ks) : Xw p l e R s m args below meth c G z nL Z pc lo (.ref (z + a) :: st) u n kc ks := x_get C gdX4 (ci := 3) rfl 1 (by decide) kfX9_331 rfl hu hv d kk
theorem pfX9_331 {x : Int32} (C : Cx p s m args c G RX9 cc nL z) (d : decode cc pc = .ok (.putfield 331, 3)) (hu : u a = some (.inr (3, fs))) (hl : 1 < fs.length) (h2 : fs.set 1 (.int x) = fs2) (hu2 : hup u a (.inr (3, fs2)) = u2) (kk : Xw p l e R s m args below meth c G z nL Z (pc + 3) lo st u2 n kc ks) : Xw p l e R s m args below meth c G z nL Z pc lo (.int x :: .ref (z + a) :: st) u n kc ks := by
  subst h2; subst hu2
  exact x_put C gdX4 tyX4 tyX4_ok nmX4 (ci := 3) rfl 1 (by decide) kfX9_331 rfl rfl rfl rfl hu hl d kk
theorem gfX4_20 {v : Value} (C : Cx p s m args c G RX4 cc nL z) (d : decode cc pc = .ok (.getfield 20, 3)) (hu : u a = some (.inr (3, fs))) (hv : fs[2]? = some v) (kk : Xw p l e R s m args below meth c G z nL Z (pc + 3) lo (v :: st) u n kc ks) : Xw p l e R s m args below meth c G z nL Z pc lo (.ref (z + a) :: st) u n kc ks := x_get C gdX4 (ci := 3) rfl 2 (by decide) kfX4_20 rfl hu hv d kk
theorem pfX4_20 {x : Int32} (C : Cx p s m args c G RX4 cc nL z) (d : decode cc pc = .ok (.putfield 20, 3)) (hb1 : narrow .boolean (.int x) = .int x) (hb2 : fits .boolean (.int x) = true) (hu : u a = some (.inr (3, fs))) (hl : 2 < fs.length) (h2 : fs.set 2 (.int x) = fs2) (hu2 : hup u a (.inr (3, fs2)) = u2) (kk : Xw p l e R s m args below meth c G z nL Z (pc + 3) lo st u2 n kc ks) : Xw p l e R s m args below meth c G z nL Z pc lo (.int x :: .ref (z + a) :: st) u n kc ks := by
  subst h2; subst hu2
  exact x_put C gdX4 tyX4 tyX4_ok nmX4 (ci := 3) rfl 2 (by decide) kfX4_20 rfl rfl hb1 hb2 hu hl d kk
theorem gfX9_113 {v : Value} (C : Cx p s m args c G RX9 cc nL z) (d : decode cc pc = .ok (.getfield 113, 3)) (hu : u a = some (.inr (3, fs))) (hv : fs[2]? = some v) (kk : Xw p l e R s m args below meth c G z nL Z (pc + 3) lo (v :: st) u n kc ks) : Xw p l e R s m args below meth c G z nL Z pc lo (.ref (z + a) :: st) u n kc ks := x_get C gdX4 (ci := 3) rfl 2 (by decide) kfX9_113 rfl hu hv d kk
theorem pfX9_113 {x : Int32} (C : Cx p s m args c G RX9 cc nL z) (d : decode cc pc = .ok (.putfield 113, 3)) (hb1 : narrow .boolean (.int x) = .int x) (hb2 : fits .boolean (.int x) = true) (hu : u a = some (.inr (3, fs))) (hl : 2 < fs.length) (h2 : fs.set 2 (.int x) = fs2) (hu2 : hup u a (.inr (3, fs2)) = u2) (kk : Xw p l e R s m args below meth c G z nL Z (pc + 3) lo st u2 n kc ks) : Xw p l e R s m args below meth c G z nL Z pc lo (.int x :: .ref (z + a) :: st) u n kc ks := by
  subst h2; subst hu2
  exact x_put C gdX4 tyX4 tyX4_ok nmX4 (ci := 3) rfl 2 (by decide) kfX9_113 rfl rfl hb1 hb2 hu hl d kk
theorem gfX9_10 {v : Value} (C : Cx p s m args c G RX9 cc nL z) (d : decode cc pc = .ok (.getfield 10, 3)) (hu : u a = some (.inr (8, fs))) (hv : fs[0]? = some v) (kk : Xw p l e R s m args below meth c G z nL Z (pc + 3) lo (v :: st) u n kc ks) : Xw p l e R s m args below meth c G z nL Z pc lo (.ref (z + a) :: st) u n kc ks := x_get C gdX9 (ci := 8) rfl 0 (by decide) kfX9_10 rfl hu hv d kk
theorem pfX9_10 {x : Nat} (C : Cx p s m args c G RX9 cc nL z) (d : decode cc pc = .ok (.putfield 10, 3)) (hi : meth.name = "<init>") (hu : u a = some (.inr (8, fs))) (hl : 0 < fs.length) (h2 : fs.set 0 (.ref x) = fs2) (hu2 : hup u a (.inr (8, fs2)) = u2) (kk : Xw p l e R s m args below meth c G z nL Z (pc + 3) lo st u2 n kc ks) : Xw p l e R s m args below meth c G z nL Z pc lo (.ref x :: .ref (z + a) :: st) u n kc ks := by
  subst h2; subst hu2
  exact x_putF C gdX9 tyX9 tyX9_ok nmX9 (ci := 8) rfl 0 (by decide) kfX9_10 rfl rfl hi rfl rfl rfl hu hl d kk
theorem gfX9_19 {v : Value} (C : Cx p s m args c G RX9 cc nL z) (d : decode cc pc = .ok (.getfield 19, 3)) (hu : u a = some (.inr (8, fs))) (hv : fs[1]? = some v) (kk : Xw p l e R s m args below meth c G z nL Z (pc + 3) lo (v :: st) u n kc ks) : Xw p l e R s m args below meth c G z nL Z pc lo (.ref (z + a) :: st) u n kc ks := x_get C gdX9 (ci := 8) rfl 1 (by decide) kfX9_19 rfl hu hv d kk
theorem pfX9_19 {x : Nat} (C : Cx p s m args c G RX9 cc nL z) (d : decode cc pc = .ok (.putfield 19, 3)) (hi : meth.name = "<init>") (hu : u a = some (.inr (8, fs))) (hl : 1 < fs.length) (h2 : fs.set 1 (.ref x) = fs2) (hu2 : hup u a (.inr (8, fs2)) = u2) (kk : Xw p l e R s m args below meth c G z nL Z (pc + 3) lo st u2 n kc ks) : Xw p l e R s m args below meth c G z nL Z pc lo (.ref x :: .ref (z + a) :: st) u n kc ks := by
  subst h2; subst hu2
  exact x_putF C gdX9 tyX9 tyX9_ok nmX9 (ci := 8) rfl 1 (by decide) kfX9_19 rfl rfl hi rfl rfl rfl hu hl d kk
theorem gfX9_26 {v : Value} (C : Cx p s m args c G RX9 cc nL z) (d : decode cc pc = .ok (.getfield 26, 3)) (hu : u a = some (.inr (8, fs))) (hv : fs[2]? = some v) (kk : Xw p l e R s m args below meth c G z nL Z (pc + 3) lo (v :: st) u n kc ks) : Xw p l e R s m args below meth c G z nL Z pc lo (.ref (z + a) :: st) u n kc ks := x_get C gdX9 (ci := 8) rfl 2 (by decide) kfX9_26 rfl hu hv d kk
theorem pfX9_26 {x : Nat} (C : Cx p s m args c G RX9 cc nL z) (d : decode cc pc = .ok (.putfield 26, 3)) (hi : meth.name = "<init>") (hu : u a = some (.inr (8, fs))) (hl : 2 < fs.length) (h2 : fs.set 2 (.ref x) = fs2) (hu2 : hup u a (.inr (8, fs2)) = u2) (kk : Xw p l e R s m args below meth c G z nL Z (pc + 3) lo st u2 n kc ks) : Xw p l e R s m args below meth c G z nL Z pc lo (.ref x :: .ref (z + a) :: st) u n kc ks := by
  subst h2; subst hu2
  exact x_putF C gdX9 tyX9 tyX9_ok nmX9 (ci := 8) rfl 2 (by decide) kfX9_26 rfl rfl hi rfl rfl rfl hu hl d kk
theorem gfX9_32 {v : Value} (C : Cx p s m args c G RX9 cc nL z) (d : decode cc pc = .ok (.getfield 32, 3)) (hu : u a = some (.inr (8, fs))) (hv : fs[3]? = some v) (kk : Xw p l e R s m args below meth c G z nL Z (pc + 3) lo (v :: st) u n kc ks) : Xw p l e R s m args below meth c G z nL Z pc lo (.ref (z + a) :: st) u n kc ks := x_get C gdX9 (ci := 8) rfl 3 (by decide) kfX9_32 rfl hu hv d kk
theorem pfX9_32 {x : Nat} (C : Cx p s m args c G RX9 cc nL z) (d : decode cc pc = .ok (.putfield 32, 3)) (hi : meth.name = "<init>") (hu : u a = some (.inr (8, fs))) (hl : 3 < fs.length) (h2 : fs.set 3 (.ref x) = fs2) (hu2 : hup u a (.inr (8, fs2)) = u2) (kk : Xw p l e R s m args below meth c G z nL Z (pc + 3) lo st u2 n kc ks) : Xw p l e R s m args below meth c G z nL Z pc lo (.ref x :: .ref (z + a) :: st) u n kc ks := by
  subst h2; subst hu2
  exact x_putF C gdX9 tyX9 tyX9_ok nmX9 (ci := 8) rfl 3 (by decide) kfX9_32 rfl rfl hi rfl rfl rfl hu hl d kk
theorem gfX9_39 {v : Value} (C : Cx p s m args c G RX9 cc nL z) (d : decode cc pc = .ok (.getfield 39, 3)) (hu : u a = some (.inr (8, fs))) (hv : fs[4]? = some v) (kk : Xw p l e R s m args below meth c G z nL Z (pc + 3) lo (v :: st) u n kc ks) : Xw p l e R s m args below meth c G z nL Z pc lo (.ref (z + a) :: st) u n kc ks := x_get C gdX9 (ci := 8) rfl 4 (by decide) kfX9_39 rfl hu hv d kk
theorem pfX9_39 {x : Nat} (C : Cx p s m args c G RX9 cc nL z) (d : decode cc pc = .ok (.putfield 39, 3)) (hi : meth.name = "<init>") (hu : u a = some (.inr (8, fs))) (hl : 4 < fs.length) (h2 : fs.set 4 (.ref x) = fs2) (hu2 : hup u a (.inr (8, fs2)) = u2) (kk : Xw p l e R s m args below meth c G z nL Z (pc + 3) lo st u2 n kc ks) : Xw p l e R s m args below meth c G z nL Z pc lo (.ref x :: .ref (z + a) :: st) u n kc ks := by
  subst h2; subst hu2
  exact x_putF C gdX9 tyX9 tyX9_ok nmX9 (ci := 8) rfl 4 (by decide) kfX9_39 rfl rfl hi rfl rfl rfl hu hl d kk
theorem gfX9_46 {v : Value} (C : Cx p s m args c G RX9 cc nL z) (d : decode cc pc = .ok (.getfield 46, 3)) (hu : u a = some (.inr (8, fs))) (hv : fs[5]? = some v) (kk : Xw p l e R s m args below meth c G z nL Z (pc + 3) lo (v :: st) u n kc ks) : Xw p l e R s m args below meth c G z nL Z pc lo (.ref (z + a) :: st) u n kc ks := x_get C gdX9 (ci := 8) rfl 5 (by decide) kfX9_46 rfl hu hv d kk
theorem pfX9_46 {x : Nat} (C : Cx p s m args c G RX9 cc nL z) (d : decode cc pc = .ok (.putfield 46, 3)) (hi : meth.name = "<init>") (hu : u a = some (.inr (8, fs))) (hl : 5 < fs.length) (h2 : fs.set 5 (.ref x) = fs2) (hu2 : hup u a (.inr (8, fs2)) = u2) (kk : Xw p l e R s m args below meth c G z nL Z (pc + 3) lo st u2 n kc ks) : Xw p l e R s m args below meth c G z nL Z pc lo (.ref x :: .ref (z + a) :: st) u n kc ks := by
  subst h2; subst hu2
  exact x_putF C gdX9 tyX9 tyX9_ok nmX9 (ci := 8) rfl 5 (by decide) kfX9_46 rfl rfl hi rfl rfl rfl hu hl d kk
theorem gfX9_55 {v : Value} (C : Cx p s m args c G RX9 cc nL z) (d : decode cc pc = .ok (.getfield 55, 3)) (hu : u a = some (.inr (8, fs))) (hv : fs[6]? = some v) (kk : Xw p l e R s m args below meth c G z nL Z (pc + 3) lo (v :: st) u n kc ks) : Xw p l e R s m args below meth c G z nL Z pc lo (.ref (z + a) :: st) u n kc ks := x_get C gdX9 (ci := 8) rfl 6 (by decide) kfX9_55 rfl hu hv d kk
theorem pfX9_55 {x : Nat} (C : Cx p s m args c G RX9 cc nL z) (d : decode cc pc = .ok (.putfield 55, 3)) (hi : meth.name = "<init>") (hu : u a = some (.inr (8, fs))) (hl : 6 < fs.length) (h2 : fs.set 6 (.ref x) = fs2) (hu2 : hup u a (.inr (8, fs2)) = u2) (kk : Xw p l e R s m args below meth c G z nL Z (pc + 3) lo st u2 n kc ks) : Xw p l e R s m args below meth c G z nL Z pc lo (.ref x :: .ref (z + a) :: st) u n kc ks := by
  subst h2; subst hu2
  exact x_putF C gdX9 tyX9 tyX9_ok nmX9 (ci := 8) rfl 6 (by decide) kfX9_55 rfl rfl hi rfl rfl rfl hu hl d kk
theorem gfX9_59 {v : Value} (C : Cx p s m args c G RX9 cc nL z) (d : decode cc pc = .ok (.getfield 59, 3)) (hu : u a = some (.inr (8, fs))) (hv : fs[7]? = some v) (kk : Xw p l e R s m args below meth c G z nL Z (pc + 3) lo (v :: st) u n kc ks) : Xw p l e R s m args below meth c G z nL Z pc lo (.ref (z + a) :: st) u n kc ks := x_get C gdX9 (ci := 8) rfl 7 (by decide) kfX9_59 rfl hu hv d kk
theorem pfX9_59 {x : Nat} (C : Cx p s m args c G RX9 cc nL z) (d : decode cc pc = .ok (.putfield 59, 3)) (hi : meth.name = "<init>") (hu : u a = some (.inr (8, fs))) (hl : 7 < fs.length) (h2 : fs.set 7 (.ref x) = fs2) (hu2 : hup u a (.inr (8, fs2)) = u2) (kk : Xw p l e R s m args below meth c G z nL Z (pc + 3) lo st u2 n kc ks) : Xw p l e R s m args below meth c G z nL Z pc lo (.ref x :: .ref (z + a) :: st) u n kc ks := by
  subst h2; subst hu2
  exact x_putF C gdX9 tyX9 tyX9_ok nmX9 (ci := 8) rfl 7 (by decide) kfX9_59 rfl rfl hi rfl rfl rfl hu hl d kk
theorem gfX9_65 {v : Value} (C : Cx p s m args c G RX9 cc nL z) (d : decode cc pc = .ok (.getfield 65, 3)) (hu : u a = some (.inr (8, fs))) (hv : fs[8]? = some v) (kk : Xw p l e R s m args below meth c G z nL Z (pc + 3) lo (v :: st) u n kc ks) : Xw p l e R s m args below meth c G z nL Z pc lo (.ref (z + a) :: st) u n kc ks := x_get C gdX9 (ci := 8) rfl 8 (by decide) kfX9_65 rfl hu hv d kk
theorem pfX9_65 {x : Nat} (C : Cx p s m args c G RX9 cc nL z) (d : decode cc pc = .ok (.putfield 65, 3)) (hu : u a = some (.inr (8, fs))) (hl : 8 < fs.length) (h2 : fs.set 8 (.ref x) = fs2) (hu2 : hup u a (.inr (8, fs2)) = u2) (kk : Xw p l e R s m args below meth c G z nL Z (pc + 3) lo st u2 n kc ks) : Xw p l e R s m args below meth c G z nL Z pc lo (.ref x :: .ref (z + a) :: st) u n kc ks := by
  subst h2; subst hu2
  exact x_put C gdX9 tyX9 tyX9_ok nmX9 (ci := 8) rfl 8 (by decide) kfX9_65 rfl rfl rfl rfl hu hl d kk
theorem gfX9_69 {v : Value} (C : Cx p s m args c G RX9 cc nL z) (d : decode cc pc = .ok (.getfield 69, 3)) (hu : u a = some (.inr (8, fs))) (hv : fs[9]? = some v) (kk : Xw p l e R s m args below meth c G z nL Z (pc + 3) lo (v :: st) u n kc ks) : Xw p l e R s m args below meth c G z nL Z pc lo (.ref (z + a) :: st) u n kc ks := x_get C gdX9 (ci := 8) rfl 9 (by decide) kfX9_69 rfl hu hv d kk
theorem pfX9_69 {x : Nat} (C : Cx p s m args c G RX9 cc nL z) (d : decode cc pc = .ok (.putfield 69, 3)) (hu : u a = some (.inr (8, fs))) (hl : 9 < fs.length) (h2 : fs.set 9 (.ref x) = fs2) (hu2 : hup u a (.inr (8, fs2)) = u2) (kk : Xw p l e R s m args below meth c G z nL Z (pc + 3) lo st u2 n kc ks) : Xw p l e R s m args below meth c G z nL Z pc lo (.ref x :: .ref (z + a) :: st) u n kc ks := by
  subst h2; subst hu2
  exact x_put C gdX9 tyX9 tyX9_ok nmX9 (ci := 8) rfl 9 (by decide) kfX9_69 rfl rfl rfl rfl hu hl d kk
theorem gfX9_72 {v : Value} (C : Cx p s m args c G RX9 cc nL z) (d : decode cc pc = .ok (.getfield 72, 3)) (hu : u a = some (.inr (8, fs))) (hv : fs[10]? = some v) (kk : Xw p l e R s m args below meth c G z nL Z (pc + 3) lo (v :: st) u n kc ks) : Xw p l e R s m args below meth c G z nL Z pc lo (.ref (z + a) :: st) u n kc ks := x_get C gdX9 (ci := 8) rfl 10 (by decide) kfX9_72 rfl hu hv d kk
theorem pfX9_72 {x : Int32} (C : Cx p s m args c G RX9 cc nL z) (d : decode cc pc = .ok (.putfield 72, 3)) (hu : u a = some (.inr (8, fs))) (hl : 10 < fs.length) (h2 : fs.set 10 (.int x) = fs2) (hu2 : hup u a (.inr (8, fs2)) = u2) (kk : Xw p l e R s m args below meth c G z nL Z (pc + 3) lo st u2 n kc ks) : Xw p l e R s m args below meth c G z nL Z pc lo (.int x :: .ref (z + a) :: st) u n kc ks := by
  subst h2; subst hu2
  exact x_put C gdX9 tyX9 tyX9_ok nmX9 (ci := 8) rfl 10 (by decide) kfX9_72 rfl rfl rfl rfl hu hl d kk
theorem gfX9_76 {v : Value} (C : Cx p s m args c G RX9 cc nL z) (d : decode cc pc = .ok (.getfield 76, 3)) (hu : u a = some (.inr (8, fs))) (hv : fs[11]? = some v) (kk : Xw p l e R s m args below meth c G z nL Z (pc + 3) lo (v :: st) u n kc ks) : Xw p l e R s m args below meth c G z nL Z pc lo (.ref (z + a) :: st) u n kc ks := x_get C gdX9 (ci := 8) rfl 11 (by decide) kfX9_76 rfl hu hv d kk
theorem pfX9_76 {x : Int32} (C : Cx p s m args c G RX9 cc nL z) (d : decode cc pc = .ok (.putfield 76, 3)) (hu : u a = some (.inr (8, fs))) (hl : 11 < fs.length) (h2 : fs.set 11 (.int x) = fs2) (hu2 : hup u a (.inr (8, fs2)) = u2) (kk : Xw p l e R s m args below meth c G z nL Z (pc + 3) lo st u2 n kc ks) : Xw p l e R s m args below meth c G z nL Z pc lo (.int x :: .ref (z + a) :: st) u n kc ks := by
  subst h2; subst hu2
  exact x_put C gdX9 tyX9 tyX9_ok nmX9 (ci := 8) rfl 11 (by decide) kfX9_76 rfl rfl rfl rfl hu hl d kk
theorem gfX10_87 {v : Value} (C : Cx p s m args c G RX10 cc nL z) (d : decode cc pc = .ok (.getfield 87, 3)) (hu : u a = some (.inr (9, fs))) (hv : fs[0]? = some v) (kk : Xw p l e R s m args below meth c G z nL Z (pc + 3) lo (v :: st) u n kc ks) : Xw p l e R s m args below meth c G z nL Z pc lo (.ref (z + a) :: st) u n kc ks := x_get C gdX10 (ci := 9) rfl 0 (by decide) kfX10_87 rfl hu hv d kk
theorem pfX10_87 {x : Int32} (C : Cx p s m args c G RX10 cc nL z) (d : decode cc pc = .ok (.putfield 87, 3)) (hu : u a = some (.inr (9, fs))) (hl : 0 < fs.length) (h2 : fs.set 0 (.int x) = fs2) (hu2 : hup u a (.inr (9, fs2)) = u2) (kk : Xw p l e R s m args below meth c G z nL Z (pc + 3) lo st u2 n kc ks) : Xw p l e R s m args below meth c G z nL Z pc lo (.int x :: .ref (z + a) :: st) u n kc ks := by
  subst h2; subst hu2
  exact x_put C gdX10 tyX10 tyX10_ok nmX10 (ci := 9) rfl 0 (by decide) kfX10_87 rfl rfl rfl rfl hu hl d kk
theorem gfX10_7 {v : Value} (C : Cx p s m args c G RX10 cc nL z) (d : decode cc pc = .ok (.getfield 7, 3)) (hu : u a = some (.inr (9, fs))) (hv : fs[1]? = some v) (kk : Xw p l e R s m args below meth c G z nL Z (pc + 3) lo (v :: st) u n kc ks) : Xw p l e R s m args below meth c G z nL Z pc lo (.ref (z + a) :: st) u n kc ks := x_get C gdX10 (ci := 9) rfl 1 (by decide) kfX10_7 rfl hu hv d kk
theorem pfX10_7 {x : Nat} (C : Cx p s m args c G RX10 cc nL z) (d : decode cc pc = .ok (.putfield 7, 3)) (hi : meth.name = "<init>") (hu : u a = some (.inr (9, fs))) (hl : 1 < fs.length) (h2 : fs.set 1 (.ref x) = fs2) (hu2 : hup u a (.inr (9, fs2)) = u2) (kk : Xw p l e R s m args below meth c G z nL Z (pc + 3) lo st u2 n kc ks) : Xw p l e R s m args below meth c G z nL Z pc lo (.ref x :: .ref (z + a) :: st) u n kc ks := by
  subst h2; subst hu2
  exact x_putF C gdX10 tyX10 tyX10_ok nmX10 (ci := 9) rfl 1 (by decide) kfX10_7 rfl rfl hi rfl rfl rfl hu hl d kk
theorem gfX10_91 {v : Value} (C : Cx p s m args c G RX10 cc nL z) (d : decode cc pc = .ok (.getfield 91, 3)) (hu : u a = some (.inr (9, fs))) (hv : fs[2]? = some v) (kk : Xw p l e R s m args below meth c G z nL Z (pc + 3) lo (v :: st) u n kc ks) : Xw p l e R s m args below meth c G z nL Z pc lo (.ref (z + a) :: st) u n kc ks := x_get C gdX10 (ci := 9) rfl 2 (by decide) kfX10_91 rfl hu hv d kk
theorem pfX10_91 {x : Int32} (C : Cx p s m args c G RX10 cc nL z) (d : decode cc pc = .ok (.putfield 91, 3)) (hu : u a = some (.inr (9, fs))) (hl : 2 < fs.length) (h2 : fs.set 2 (.int x) = fs2) (hu2 : hup u a (.inr (9, fs2)) = u2) (kk : Xw p l e R s m args below meth c G z nL Z (pc + 3) lo st u2 n kc ks) : Xw p l e R s m args below meth c G z nL Z pc lo (.int x :: .ref (z + a) :: st) u n kc ks := by
  subst h2; subst hu2
  exact x_put C gdX10 tyX10 tyX10_ok nmX10 (ci := 9) rfl 2 (by decide) kfX10_91 rfl rfl rfl rfl hu hl d kk
theorem gfX10_109 {v : Value} (C : Cx p s m args c G RX10 cc nL z) (d : decode cc pc = .ok (.getfield 109, 3)) (hu : u a = some (.inr (9, fs))) (hv : fs[3]? = some v) (kk : Xw p l e R s m args below meth c G z nL Z (pc + 3) lo (v :: st) u n kc ks) : Xw p l e R s m args below meth c G z nL Z pc lo (.ref (z + a) :: st) u n kc ks := x_get C gdX10 (ci := 9) rfl 3 (by decide) kfX10_109 rfl hu hv d kk
theorem pfX10_109 {x : Int32} (C : Cx p s m args c G RX10 cc nL z) (d : decode cc pc = .ok (.putfield 109, 3)) (hu : u a = some (.inr (9, fs))) (hl : 3 < fs.length) (h2 : fs.set 3 (.int x) = fs2) (hu2 : hup u a (.inr (9, fs2)) = u2) (kk : Xw p l e R s m args below meth c G z nL Z (pc + 3) lo st u2 n kc ks) : Xw p l e R s m args below meth c G z nL Z pc lo (.int x :: .ref (z + a) :: st) u n kc ks := by
  subst h2; subst hu2
  exact x_put C gdX10 tyX10 tyX10_ok nmX10 (ci := 9) rfl 3 (by decide) kfX10_109 rfl rfl rfl rfl hu hl d kk
theorem gfX10_98 {v : Value} (C : Cx p s m args c G RX10 cc nL z) (d : decode cc pc = .ok (.getfield 98, 3)) (hu : u a = some (.inr (9, fs))) (hv : fs[4]? = some v) (kk : Xw p l e R s m args below meth c G z nL Z (pc + 3) lo (v :: st) u n kc ks) : Xw p l e R s m args below meth c G z nL Z pc lo (.ref (z + a) :: st) u n kc ks := x_get C gdX10 (ci := 9) rfl 4 (by decide) kfX10_98 rfl hu hv d kk
theorem pfX10_98 {x : Int32} (C : Cx p s m args c G RX10 cc nL z) (d : decode cc pc = .ok (.putfield 98, 3)) (hu : u a = some (.inr (9, fs))) (hl : 4 < fs.length) (h2 : fs.set 4 (.int x) = fs2) (hu2 : hup u a (.inr (9, fs2)) = u2) (kk : Xw p l e R s m args below meth c G z nL Z (pc + 3) lo st u2 n kc ks) : Xw p l e R s m args below meth c G z nL Z pc lo (.int x :: .ref (z + a) :: st) u n kc ks := by
  subst h2; subst hu2
  exact x_put C gdX10 tyX10 tyX10_ok nmX10 (ci := 9) rfl 4 (by decide) kfX10_98 rfl rfl rfl rfl hu hl d kk
theorem gfX10_13 {v : Value} (C : Cx p s m args c G RX10 cc nL z) (d : decode cc pc = .ok (.getfield 13, 3)) (hu : u a = some (.inr (9, fs))) (hv : fs[5]? = some v) (kk : Xw p l e R s m args below meth c G z nL Z (pc + 3) lo (v :: st) u n kc ks) : Xw p l e R s m args below meth c G z nL Z pc lo (.ref (z + a) :: st) u n kc ks := x_get C gdX10 (ci := 9) rfl 5 (by decide) kfX10_13 rfl hu hv d kk
theorem pfX10_13 {x : Int32} (C : Cx p s m args c G RX10 cc nL z) (d : decode cc pc = .ok (.putfield 13, 3)) (hu : u a = some (.inr (9, fs))) (hl : 5 < fs.length) (h2 : fs.set 5 (.int x) = fs2) (hu2 : hup u a (.inr (9, fs2)) = u2) (kk : Xw p l e R s m args below meth c G z nL Z (pc + 3) lo st u2 n kc ks) : Xw p l e R s m args below meth c G z nL Z pc lo (.int x :: .ref (z + a) :: st) u n kc ks := by
  subst h2; subst hu2
  exact x_put C gdX10 tyX10 tyX10_ok nmX10 (ci := 9) rfl 5 (by decide) kfX10_13 rfl rfl rfl rfl hu hl d kk
theorem gfX10_115 {v : Value} (C : Cx p s m args c G RX10 cc nL z) (d : decode cc pc = .ok (.getfield 115, 3)) (hu : u a = some (.inr (9, fs))) (hv : fs[6]? = some v) (kk : Xw p l e R s m args below meth c G z nL Z (pc + 3) lo (v :: st) u n kc ks) : Xw p l e R s m args below meth c G z nL Z pc lo (.ref (z + a) :: st) u n kc ks := x_get C gdX10 (ci := 9) rfl 6 (by decide) kfX10_115 rfl hu hv d kk
theorem pfX10_115 {x : Int32} (C : Cx p s m args c G RX10 cc nL z) (d : decode cc pc = .ok (.putfield 115, 3)) (hu : u a = some (.inr (9, fs))) (hl : 6 < fs.length) (h2 : fs.set 6 (.int x) = fs2) (hu2 : hup u a (.inr (9, fs2)) = u2) (kk : Xw p l e R s m args below meth c G z nL Z (pc + 3) lo st u2 n kc ks) : Xw p l e R s m args below meth c G z nL Z pc lo (.int x :: .ref (z + a) :: st) u n kc ks := by
  subst h2; subst hu2
  exact x_put C gdX10 tyX10 tyX10_ok nmX10 (ci := 9) rfl 6 (by decide) kfX10_115 rfl rfl rfl rfl hu hl d kk
theorem gfX10_118 {v : Value} (C : Cx p s m args c G RX10 cc nL z) (d : decode cc pc = .ok (.getfield 118, 3)) (hu : u a = some (.inr (9, fs))) (hv : fs[7]? = some v) (kk : Xw p l e R s m args below meth c G z nL Z (pc + 3) lo (v :: st) u n kc ks) : Xw p l e R s m args below meth c G z nL Z pc lo (.ref (z + a) :: st) u n kc ks := x_get C gdX10 (ci := 9) rfl 7 (by decide) kfX10_118 rfl hu hv d kk
theorem pfX10_118 {x : Int32} (C : Cx p s m args c G RX10 cc nL z) (d : decode cc pc = .ok (.putfield 118, 3)) (hu : u a = some (.inr (9, fs))) (hl : 7 < fs.length) (h2 : fs.set 7 (.int x) = fs2) (hu2 : hup u a (.inr (9, fs2)) = u2) (kk : Xw p l e R s m args below meth c G z nL Z (pc + 3) lo st u2 n kc ks) : Xw p l e R s m args below meth c G z nL Z pc lo (.int x :: .ref (z + a) :: st) u n kc ks := by
  subst h2; subst hu2
  exact x_put C gdX10 tyX10 tyX10_ok nmX10 (ci := 9) rfl 7 (by decide) kfX10_118 rfl rfl rfl rfl hu hl d kk
theorem gfX10_125 {v : Value} (C : Cx p s m args c G RX10 cc nL z) (d : decode cc pc = .ok (.getfield 125, 3)) (hu : u a = some (.inr (9, fs))) (hv : fs[8]? = some v) (kk : Xw p l e R s m args below meth c G z nL Z (pc + 3) lo (v :: st) u n kc ks) : Xw p l e R s m args below meth c G z nL Z pc lo (.ref (z + a) :: st) u n kc ks := x_get C gdX10 (ci := 9) rfl 8 (by decide) kfX10_125 rfl hu hv d kk
theorem pfX10_125 {x : Int32} (C : Cx p s m args c G RX10 cc nL z) (d : decode cc pc = .ok (.putfield 125, 3)) (hu : u a = some (.inr (9, fs))) (hl : 8 < fs.length) (h2 : fs.set 8 (.int x) = fs2) (hu2 : hup u a (.inr (9, fs2)) = u2) (kk : Xw p l e R s m args below meth c G z nL Z (pc + 3) lo st u2 n kc ks) : Xw p l e R s m args below meth c G z nL Z pc lo (.int x :: .ref (z + a) :: st) u n kc ks := by
  subst h2; subst hu2
  exact x_put C gdX10 tyX10 tyX10_ok nmX10 (ci := 9) rfl 8 (by decide) kfX10_125 rfl rfl rfl rfl hu hl d kk
theorem gfX10_128 {v : Value} (C : Cx p s m args c G RX10 cc nL z) (d : decode cc pc = .ok (.getfield 128, 3)) (hu : u a = some (.inr (9, fs))) (hv : fs[9]? = some v) (kk : Xw p l e R s m args below meth c G z nL Z (pc + 3) lo (v :: st) u n kc ks) : Xw p l e R s m args below meth c G z nL Z pc lo (.ref (z + a) :: st) u n kc ks := x_get C gdX10 (ci := 9) rfl 9 (by decide) kfX10_128 rfl hu hv d kk
theorem pfX10_128 {x : Int32} (C : Cx p s m args c G RX10 cc nL z) (d : decode cc pc = .ok (.putfield 128, 3)) (hu : u a = some (.inr (9, fs))) (hl : 9 < fs.length) (h2 : fs.set 9 (.int x) = fs2) (hu2 : hup u a (.inr (9, fs2)) = u2) (kk : Xw p l e R s m args below meth c G z nL Z (pc + 3) lo st u2 n kc ks) : Xw p l e R s m args below meth c G z nL Z pc lo (.int x :: .ref (z + a) :: st) u n kc ks := by
  subst h2; subst hu2
  exact x_put C gdX10 tyX10 tyX10_ok nmX10 (ci := 9) rfl 9 (by decide) kfX10_128 rfl rfl rfl rfl hu hl d kk
theorem gfX10_17 {v : Value} (C : Cx p s m args c G RX10 cc nL z) (d : decode cc pc = .ok (.getfield 17, 3)) (hu : u a = some (.inr (9, fs))) (hv : fs[10]? = some v) (kk : Xw p l e R s m args below meth c G z nL Z (pc + 3) lo (v :: st) u n kc ks) : Xw p l e R s m args below meth c G z nL Z pc lo (.ref (z + a) :: st) u n kc ks := x_get C gdX10 (ci := 9) rfl 10 (by decide) kfX10_17 rfl hu hv d kk
theorem pfX10_17 {x : Nat} (C : Cx p s m args c G RX10 cc nL z) (d : decode cc pc = .ok (.putfield 17, 3)) (hi : meth.name = "<init>") (hu : u a = some (.inr (9, fs))) (hl : 10 < fs.length) (h2 : fs.set 10 (.ref x) = fs2) (hu2 : hup u a (.inr (9, fs2)) = u2) (kk : Xw p l e R s m args below meth c G z nL Z (pc + 3) lo st u2 n kc ks) : Xw p l e R s m args below meth c G z nL Z pc lo (.ref x :: .ref (z + a) :: st) u n kc ks := by
  subst h2; subst hu2
  exact x_putF C gdX10 tyX10 tyX10_ok nmX10 (ci := 9) rfl 10 (by decide) kfX10_17 rfl rfl hi rfl rfl rfl hu hl d kk
theorem gfX10_20 {v : Value} (C : Cx p s m args c G RX10 cc nL z) (d : decode cc pc = .ok (.getfield 20, 3)) (hu : u a = some (.inr (9, fs))) (hv : fs[11]? = some v) (kk : Xw p l e R s m args below meth c G z nL Z (pc + 3) lo (v :: st) u n kc ks) : Xw p l e R s m args below meth c G z nL Z pc lo (.ref (z + a) :: st) u n kc ks := x_get C gdX10 (ci := 9) rfl 11 (by decide) kfX10_20 rfl hu hv d kk
theorem pfX10_20 {x : Nat} (C : Cx p s m args c G RX10 cc nL z) (d : decode cc pc = .ok (.putfield 20, 3)) (hi : meth.name = "<init>") (hu : u a = some (.inr (9, fs))) (hl : 11 < fs.length) (h2 : fs.set 11 (.ref x) = fs2) (hu2 : hup u a (.inr (9, fs2)) = u2) (kk : Xw p l e R s m args below meth c G z nL Z (pc + 3) lo st u2 n kc ks) : Xw p l e R s m args below meth c G z nL Z pc lo (.ref x :: .ref (z + a) :: st) u n kc ks := by
  subst h2; subst hu2
  exact x_putF C gdX10 tyX10 tyX10_ok nmX10 (ci := 9) rfl 11 (by decide) kfX10_20 rfl rfl hi rfl rfl rfl hu hl d kk
theorem gfX10_23 {v : Value} (C : Cx p s m args c G RX10 cc nL z) (d : decode cc pc = .ok (.getfield 23, 3)) (hu : u a = some (.inr (9, fs))) (hv : fs[12]? = some v) (kk : Xw p l e R s m args below meth c G z nL Z (pc + 3) lo (v :: st) u n kc ks) : Xw p l e R s m args below meth c G z nL Z pc lo (.ref (z + a) :: st) u n kc ks := x_get C gdX10 (ci := 9) rfl 12 (by decide) kfX10_23 rfl hu hv d kk
theorem pfX10_23 {x : Nat} (C : Cx p s m args c G RX10 cc nL z) (d : decode cc pc = .ok (.putfield 23, 3)) (hi : meth.name = "<init>") (hu : u a = some (.inr (9, fs))) (hl : 12 < fs.length) (h2 : fs.set 12 (.ref x) = fs2) (hu2 : hup u a (.inr (9, fs2)) = u2) (kk : Xw p l e R s m args below meth c G z nL Z (pc + 3) lo st u2 n kc ks) : Xw p l e R s m args below meth c G z nL Z pc lo (.ref x :: .ref (z + a) :: st) u n kc ks := by
  subst h2; subst hu2
  exact x_putF C gdX10 tyX10 tyX10_ok nmX10 (ci := 9) rfl 12 (by decide) kfX10_23 rfl rfl hi rfl rfl rfl hu hl d kk
theorem gfX10_26 {v : Value} (C : Cx p s m args c G RX10 cc nL z) (d : decode cc pc = .ok (.getfield 26, 3)) (hu : u a = some (.inr (9, fs))) (hv : fs[13]? = some v) (kk : Xw p l e R s m args below meth c G z nL Z (pc + 3) lo (v :: st) u n kc ks) : Xw p l e R s m args below meth c G z nL Z pc lo (.ref (z + a) :: st) u n kc ks := x_get C gdX10 (ci := 9) rfl 13 (by decide) kfX10_26 rfl hu hv d kk
theorem pfX10_26 {x : Nat} (C : Cx p s m args c G RX10 cc nL z) (d : decode cc pc = .ok (.putfield 26, 3)) (hi : meth.name = "<init>") (hu : u a = some (.inr (9, fs))) (hl : 13 < fs.length) (h2 : fs.set 13 (.ref x) = fs2) (hu2 : hup u a (.inr (9, fs2)) = u2) (kk : Xw p l e R s m args below meth c G z nL Z (pc + 3) lo st u2 n kc ks) : Xw p l e R s m args below meth c G z nL Z pc lo (.ref x :: .ref (z + a) :: st) u n kc ks := by
  subst h2; subst hu2
  exact x_putF C gdX10 tyX10 tyX10_ok nmX10 (ci := 9) rfl 13 (by decide) kfX10_26 rfl rfl hi rfl rfl rfl hu hl d kk
theorem gfX10_29 {v : Value} (C : Cx p s m args c G RX10 cc nL z) (d : decode cc pc = .ok (.getfield 29, 3)) (hu : u a = some (.inr (9, fs))) (hv : fs[14]? = some v) (kk : Xw p l e R s m args below meth c G z nL Z (pc + 3) lo (v :: st) u n kc ks) : Xw p l e R s m args below meth c G z nL Z pc lo (.ref (z + a) :: st) u n kc ks := x_get C gdX10 (ci := 9) rfl 14 (by decide) kfX10_29 rfl hu hv d kk
theorem pfX10_29 {x : Nat} (C : Cx p s m args c G RX10 cc nL z) (d : decode cc pc = .ok (.putfield 29, 3)) (hi : meth.name = "<init>") (hu : u a = some (.inr (9, fs))) (hl : 14 < fs.length) (h2 : fs.set 14 (.ref x) = fs2) (hu2 : hup u a (.inr (9, fs2)) = u2) (kk : Xw p l e R s m args below meth c G z nL Z (pc + 3) lo st u2 n kc ks) : Xw p l e R s m args below meth c G z nL Z pc lo (.ref x :: .ref (z + a) :: st) u n kc ks := by
  subst h2; subst hu2
  exact x_putF C gdX10 tyX10 tyX10_ok nmX10 (ci := 9) rfl 14 (by decide) kfX10_29 rfl rfl hi rfl rfl rfl hu hl d kk
theorem gfX10_147 {v : Value} (C : Cx p s m args c G RX10 cc nL z) (d : decode cc pc = .ok (.getfield 147, 3)) (hu : u a = some (.inr (9, fs))) (hv : fs[15]? = some v) (kk : Xw p l e R s m args below meth c G z nL Z (pc + 3) lo (v :: st) u n kc ks) : Xw p l e R s m args below meth c G z nL Z pc lo (.ref (z + a) :: st) u n kc ks := x_get C gdX10 (ci := 9) rfl 15 (by decide) kfX10_147 rfl hu hv d kk
theorem pfX10_147 {x : Int32} (C : Cx p s m args c G RX10 cc nL z) (d : decode cc pc = .ok (.putfield 147, 3)) (hu : u a = some (.inr (9, fs))) (hl : 15 < fs.length) (h2 : fs.set 15 (.int x) = fs2) (hu2 : hup u a (.inr (9, fs2)) = u2) (kk : Xw p l e R s m args below meth c G z nL Z (pc + 3) lo st u2 n kc ks) : Xw p l e R s m args below meth c G z nL Z pc lo (.int x :: .ref (z + a) :: st) u n kc ks := by
  subst h2; subst hu2
  exact x_put C gdX10 tyX10 tyX10_ok nmX10 (ci := 9) rfl 15 (by decide) kfX10_147 rfl rfl rfl rfl hu hl d kk
theorem gfX10_150 {v : Value} (C : Cx p s m args c G RX10 cc nL z) (d : decode cc pc = .ok (.getfield 150, 3)) (hu : u a = some (.inr (9, fs))) (hv : fs[16]? = some v) (kk : Xw p l e R s m args below meth c G z nL Z (pc + 3) lo (v :: st) u n kc ks) : Xw p l e R s m args below meth c G z nL Z pc lo (.ref (z + a) :: st) u n kc ks := x_get C gdX10 (ci := 9) rfl 16 (by decide) kfX10_150 rfl hu hv d kk
theorem pfX10_150 {x : Int32} (C : Cx p s m args c G RX10 cc nL z) (d : decode cc pc = .ok (.putfield 150, 3)) (hu : u a = some (.inr (9, fs))) (hl : 16 < fs.length) (h2 : fs.set 16 (.int x) = fs2) (hu2 : hup u a (.inr (9, fs2)) = u2) (kk : Xw p l e R s m args below meth c G z nL Z (pc + 3) lo st u2 n kc ks) : Xw p l e R s m args below meth c G z nL Z pc lo (.int x :: .ref (z + a) :: st) u n kc ks := by
  subst h2; subst hu2
  exact x_put C gdX10 tyX10 tyX10_ok nmX10 (ci := 9) rfl 16 (by decide) kfX10_150 rfl rfl rfl rfl hu hl d kk
theorem gfX10_153 {v : Value} (C : Cx p s m args c G RX10 cc nL z) (d : decode cc pc = .ok (.getfield 153, 3)) (hu : u a = some (.inr (9, fs))) (hv : fs[17]? = some v) (kk : Xw p l e R s m args below meth c G z nL Z (pc + 3) lo (v :: st) u n kc ks) : Xw p l e R s m args below meth c G z nL Z pc lo (.ref (z + a) :: st) u n kc ks := x_get C gdX10 (ci := 9) rfl 17 (by decide) kfX10_153 rfl hu hv d kk
theorem pfX10_153 {x : Int32} (C : Cx p s m args c G RX10 cc nL z) (d : decode cc pc = .ok (.putfield 153, 3)) (hu : u a = some (.inr (9, fs))) (hl : 17 < fs.length) (h2 : fs.set 17 (.int x) = fs2) (hu2 : hup u a (.inr (9, fs2)) = u2) (kk : Xw p l e R s m args below meth c G z nL Z (pc + 3) lo st u2 n kc ks) : Xw p l e R s m args below meth c G z nL Z pc lo (.int x :: .ref (z + a) :: st) u n kc ks := by
  subst h2; subst hu2
  exact x_put C gdX10 tyX10 tyX10_ok nmX10 (ci := 9) rfl 17 (by decide) kfX10_153 rfl rfl rfl rfl hu hl d kk
theorem gfX10_156 {v : Value} (C : Cx p s m args c G RX10 cc nL z) (d : decode cc pc = .ok (.getfield 156, 3)) (hu : u a = some (.inr (9, fs))) (hv : fs[18]? = some v) (kk : Xw p l e R s m args below meth c G z nL Z (pc + 3) lo (v :: st) u n kc ks) : Xw p l e R s m args below meth c G z nL Z pc lo (.ref (z + a) :: st) u n kc ks := x_get C gdX10 (ci := 9) rfl 18 (by decide) kfX10_156 rfl hu hv d kk
theorem pfX10_156 {x : Int32} (C : Cx p s m args c G RX10 cc nL z) (d : decode cc pc = .ok (.putfield 156, 3)) (hu : u a = some (.inr (9, fs))) (hl : 18 < fs.length) (h2 : fs.set 18 (.int x) = fs2) (hu2 : hup u a (.inr (9, fs2)) = u2) (kk : Xw p l e R s m args below meth c G z nL Z (pc + 3) lo st u2 n kc ks) : Xw p l e R s m args below meth c G z nL Z pc lo (.int x :: .ref (z + a) :: st) u n kc ks := by
  subst h2; subst hu2
  exact x_put C gdX10 tyX10 tyX10_ok nmX10 (ci := 9) rfl 18 (by decide) kfX10_156 rfl rfl rfl rfl hu hl d kk
theorem gfX10_32 {v : Value} (C : Cx p s m args c G RX10 cc nL z) (d : decode cc pc = .ok (.getfield 32, 3)) (hu : u a = some (.inr (9, fs))) (hv : fs[19]? = some v) (kk : Xw p l e R s m args below meth c G z nL Z (pc + 3) lo (v :: st) u n kc ks) : Xw p l e R s m args below meth c G z nL Z pc lo (.ref (z + a) :: st) u n kc ks := x_get C gdX10 (ci := 9) rfl 19 (by decide) kfX10_32 rfl hu hv d kk
theorem pfX10_32 {x : Nat} (C : Cx p s m args c G RX10 cc nL z) (d : decode cc pc = .ok (.putfield 32, 3)) (hi : meth.name = "<init>") (hu : u a = some (.inr (9, fs))) (hl : 19 < fs.length) (h2 : fs.set 19 (.ref x) = fs2) (hu2 : hup u a (.inr (9, fs2)) = u2) (kk : Xw p l e R s m args below meth c G z nL Z (pc + 3) lo st u2 n kc ks) : Xw p l e R s m args below meth c G z nL Z pc lo (.ref x :: .ref (z + a) :: st) u n kc ks := by
  subst h2; subst hu2
  exact x_putF C gdX10 tyX10 tyX10_ok nmX10 (ci := 9) rfl 19 (by decide) kfX10_32 rfl rfl hi rfl rfl rfl hu hl d kk
theorem gfX10_35 {v : Value} (C : Cx p s m args c G RX10 cc nL z) (d : decode cc pc = .ok (.getfield 35, 3)) (hu : u a = some (.inr (9, fs))) (hv : fs[20]? = some v) (kk : Xw p l e R s m args below meth c G z nL Z (pc + 3) lo (v :: st) u n kc ks) : Xw p l e R s m args below meth c G z nL Z pc lo (.ref (z + a) :: st) u n kc ks := x_get C gdX10 (ci := 9) rfl 20 (by decide) kfX10_35 rfl hu hv d kk
theorem pfX10_35 {x : Nat} (C : Cx p s m args c G RX10 cc nL z) (d : decode cc pc = .ok (.putfield 35, 3)) (hi : meth.name = "<init>") (hu : u a = some (.inr (9, fs))) (hl : 20 < fs.length) (h2 : fs.set 20 (.ref x) = fs2) (hu2 : hup u a (.inr (9, fs2)) = u2) (kk : Xw p l e R s m args below meth c G z nL Z (pc + 3) lo st u2 n kc ks) : Xw p l e R s m args below meth c G z nL Z pc lo (.ref x :: .ref (z + a) :: st) u n kc ks := by
  subst h2; subst hu2
  exact x_putF C gdX10 tyX10 tyX10_ok nmX10 (ci := 9) rfl 20 (by decide) kfX10_35 rfl rfl hi rfl rfl rfl hu hl d kk
theorem gfX10_38 {v : Value} (C : Cx p s m args c G RX10 cc nL z) (d : decode cc pc = .ok (.getfield 38, 3)) (hu : u a = some (.inr (9, fs))) (hv : fs[21]? = some v) (kk : Xw p l e R s m args below meth c G z nL Z (pc + 3) lo (v :: st) u n kc ks) : Xw p l e R s m args below meth c G z nL Z pc lo (.ref (z + a) :: st) u n kc ks := x_get C gdX10 (ci := 9) rfl 21 (by decide) kfX10_38 rfl hu hv d kk
theorem pfX10_38 {x : Nat} (C : Cx p s m args c G RX10 cc nL z) (d : decode cc pc = .ok (.putfield 38, 3)) (hi : meth.name = "<init>") (hu : u a = some (.inr (9, fs))) (hl : 21 < fs.length) (h2 : fs.set 21 (.ref x) = fs2) (hu2 : hup u a (.inr (9, fs2)) = u2) (kk : Xw p l e R s m args below meth c G z nL Z (pc + 3) lo st u2 n kc ks) : Xw p l e R s m args below meth c G z nL Z pc lo (.ref x :: .ref (z + a) :: st) u n kc ks := by
  subst h2; subst hu2
  exact x_putF C gdX10 tyX10 tyX10_ok nmX10 (ci := 9) rfl 21 (by decide) kfX10_38 rfl rfl hi rfl rfl rfl hu hl d kk
theorem gfX10_41 {v : Value} (C : Cx p s m args c G RX10 cc nL z) (d : decode cc pc = .ok (.getfield 41, 3)) (hu : u a = some (.inr (9, fs))) (hv : fs[22]? = some v) (kk : Xw p l e R s m args below meth c G z nL Z (pc + 3) lo (v :: st) u n kc ks) : Xw p l e R s m args below meth c G z nL Z pc lo (.ref (z + a) :: st) u n kc ks := x_get C gdX10 (ci := 9) rfl 22 (by decide) kfX10_41 rfl hu hv d kk
theorem pfX10_41 {x : Nat} (C : Cx p s m args c G RX10 cc nL z) (d : decode cc pc = .ok (.putfield 41, 3)) (hi : meth.name = "<init>") (hu : u a = some (.inr (9, fs))) (hl : 22 < fs.length) (h2 : fs.set 22 (.ref x) = fs2) (hu2 : hup u a (.inr (9, fs2)) = u2) (kk : Xw p l e R s m args below meth c G z nL Z (pc + 3) lo st u2 n kc ks) : Xw p l e R s m args below meth c G z nL Z pc lo (.ref x :: .ref (z + a) :: st) u n kc ks := by
  subst h2; subst hu2
  exact x_putF C gdX10 tyX10 tyX10_ok nmX10 (ci := 9) rfl 22 (by decide) kfX10_41 rfl rfl hi rfl rfl rfl hu hl d kk
theorem gfX10_44 {v : Value} (C : Cx p s m args c G RX10 cc nL z) (d : decode cc pc = .ok (.getfield 44, 3)) (hu : u a = some (.inr (9, fs))) (hv : fs[23]? = some v) (kk : Xw p l e R s m args below meth c G z nL Z (pc + 3) lo (v :: st) u n kc ks) : Xw p l e R s m args below meth c G z nL Z pc lo (.ref (z + a) :: st) u n kc ks := x_get C gdX10 (ci := 9) rfl 23 (by decide) kfX10_44 rfl hu hv d kk
theorem pfX10_44 {x : Nat} (C : Cx p s m args c G RX10 cc nL z) (d : decode cc pc = .ok (.putfield 44, 3)) (hi : meth.name = "<init>") (hu : u a = some (.inr (9, fs))) (hl : 23 < fs.length) (h2 : fs.set 23 (.ref x) = fs2) (hu2 : hup u a (.inr (9, fs2)) = u2) (kk : Xw p l e R s m args below meth c G z nL Z (pc + 3) lo st u2 n kc ks) : Xw p l e R s m args below meth c G z nL Z pc lo (.ref x :: .ref (z + a) :: st) u n kc ks := by
  subst h2; subst hu2
  exact x_putF C gdX10 tyX10 tyX10_ok nmX10 (ci := 9) rfl 23 (by decide) kfX10_44 rfl rfl hi rfl rfl rfl hu hl d kk
theorem gfX10_47 {v : Value} (C : Cx p s m args c G RX10 cc nL z) (d : decode cc pc = .ok (.getfield 47, 3)) (hu : u a = some (.inr (9, fs))) (hv : fs[24]? = some v) (kk : Xw p l e R s m args below meth c G z nL Z (pc + 3) lo (v :: st) u n kc ks) : Xw p l e R s m args below meth c G z nL Z pc lo (.ref (z + a) :: st) u n kc ks := x_get C gdX10 (ci := 9) rfl 24 (by decide) kfX10_47 rfl hu hv d kk
theorem pfX10_47 {x : Nat} (C : Cx p s m args c G RX10 cc nL z) (d : decode cc pc = .ok (.putfield 47, 3)) (hi : meth.name = "<init>") (hu : u a = some (.inr (9, fs))) (hl : 24 < fs.length) (h2 : fs.set 24 (.ref x) = fs2) (hu2 : hup u a (.inr (9, fs2)) = u2) (kk : Xw p l e R s m args below meth c G z nL Z (pc + 3) lo st u2 n kc ks) : Xw p l e R s m args below meth c G z nL Z pc lo (.ref x :: .ref (z + a) :: st) u n kc ks := by
  subst h2; subst hu2
  exact x_putF C gdX10 tyX10 tyX10_ok nmX10 (ci := 9) rfl 24 (by decide) kfX10_47 rfl rfl hi rfl rfl rfl hu hl d kk
theorem gfX10_159 {v : Value} (C : Cx p s m args c G RX10 cc nL z) (d : decode cc pc = .ok (.getfield 159, 3)) (hu : u a = some (.inr (9, fs))) (hv : fs[25]? = some v) (kk : Xw p l e R s m args below meth c G z nL Z (pc + 3) lo (v :: st) u n kc ks) : Xw p l e R s m args below meth c G z nL Z pc lo (.ref (z + a) :: st) u n kc ks := x_get C gdX10 (ci := 9) rfl 25 (by decide) kfX10_159 rfl hu hv d kk
theorem pfX10_159 {x : Int32} (C : Cx p s m args c G RX10 cc nL z) (d : decode cc pc = .ok (.putfield 159, 3)) (hu : u a = some (.inr (9, fs))) (hl : 25 < fs.length) (h2 : fs.set 25 (.int x) = fs2) (hu2 : hup u a (.inr (9, fs2)) = u2) (kk : Xw p l e R s m args below meth c G z nL Z (pc + 3) lo st u2 n kc ks) : Xw p l e R s m args below meth c G z nL Z pc lo (.int x :: .ref (z + a) :: st) u n kc ks := by
  subst h2; subst hu2
  exact x_put C gdX10 tyX10 tyX10_ok nmX10 (ci := 9) rfl 25 (by decide) kfX10_159 rfl rfl rfl rfl hu hl d kk
theorem gfX10_212 {v : Value} (C : Cx p s m args c G RX10 cc nL z) (d : decode cc pc = .ok (.getfield 212, 3)) (hu : u a = some (.inr (9, fs))) (hv : fs[26]? = some v) (kk : Xw p l e R s m args below meth c G z nL Z (pc + 3) lo (v :: st) u n kc ks) : Xw p l e R s m args below meth c G z nL Z pc lo (.ref (z + a) :: st) u n kc ks := x_get C gdX10 (ci := 9) rfl 26 (by decide) kfX10_212 rfl hu hv d kk
theorem pfX10_212 {x : Int32} (C : Cx p s m args c G RX10 cc nL z) (d : decode cc pc = .ok (.putfield 212, 3)) (hu : u a = some (.inr (9, fs))) (hl : 26 < fs.length) (h2 : fs.set 26 (.int x) = fs2) (hu2 : hup u a (.inr (9, fs2)) = u2) (kk : Xw p l e R s m args below meth c G z nL Z (pc + 3) lo st u2 n kc ks) : Xw p l e R s m args below meth c G z nL Z pc lo (.int x :: .ref (z + a) :: st) u n kc ks := by
  subst h2; subst hu2
  exact x_put C gdX10 tyX10 tyX10_ok nmX10 (ci := 9) rfl 26 (by decide) kfX10_212 rfl rfl rfl rfl hu hl d kk
theorem gfX10_50 {v : Value} (C : Cx p s m args c G RX10 cc nL z) (d : decode cc pc = .ok (.getfield 50, 3)) (hu : u a = some (.inr (9, fs))) (hv : fs[27]? = some v) (kk : Xw p l e R s m args below meth c G z nL Z (pc + 3) lo (v :: st) u n kc ks) : Xw p l e R s m args below meth c G z nL Z pc lo (.ref (z + a) :: st) u n kc ks := x_get C gdX10 (ci := 9) rfl 27 (by decide) kfX10_50 rfl hu hv d kk
theorem pfX10_50 {x : Nat} (C : Cx p s m args c G RX10 cc nL z) (d : decode cc pc = .ok (.putfield 50, 3)) (hi : meth.name = "<init>") (hu : u a = some (.inr (9, fs))) (hl : 27 < fs.length) (h2 : fs.set 27 (.ref x) = fs2) (hu2 : hup u a (.inr (9, fs2)) = u2) (kk : Xw p l e R s m args below meth c G z nL Z (pc + 3) lo st u2 n kc ks) : Xw p l e R s m args below meth c G z nL Z pc lo (.ref x :: .ref (z + a) :: st) u n kc ks := by
  subst h2; subst hu2
  exact x_putF C gdX10 tyX10 tyX10_ok nmX10 (ci := 9) rfl 27 (by decide) kfX10_50 rfl rfl hi rfl rfl rfl hu hl d kk
theorem gfX10_243 {v : Value} (C : Cx p s m args c G RX10 cc nL z) (d : decode cc pc = .ok (.getfield 243, 3)) (hu : u a = some (.inr (9, fs))) (hv : fs[28]? = some v) (kk : Xw p l e R s m args below meth c G z nL Z (pc + 3) lo (v :: st) u n kc ks) : Xw p l e R s m args below meth c G z nL Z pc lo (.ref (z + a) :: st) u n kc ks := x_get C gdX10 (ci := 9) rfl 28 (by decide) kfX10_243 rfl hu hv d kk
theorem pfX10_243 {x : Int64} (C : Cx p s m args c G RX10 cc nL z) (d : decode cc pc = .ok (.putfield 243, 3)) (hu : u a = some (.inr (9, fs))) (hl : 28 < fs.length) (h2 : fs.set 28 (.long x) = fs2) (hu2 : hup u a (.inr (9, fs2)) = u2) (kk : Xw p l e R s m args below meth c G z nL Z (pc + 3) lo st u2 n kc ks) : Xw p l e R s m args below meth c G z nL Z pc lo (.long x :: .ref (z + a) :: st) u n kc ks := by
  subst h2; subst hu2
  exact x_put C gdX10 tyX10 tyX10_ok nmX10 (ci := 9) rfl 28 (by decide) kfX10_243 rfl rfl rfl rfl hu hl d kk
theorem gfX10_53 {v : Value} (C : Cx p s m args c G RX10 cc nL z) (d : decode cc pc = .ok (.getfield 53, 3)) (hu : u a = some (.inr (9, fs))) (hv : fs[29]? = some v) (kk : Xw p l e R s m args below meth c G z nL Z (pc + 3) lo (v :: st) u n kc ks) : Xw p l e R s m args below meth c G z nL Z pc lo (.ref (z + a) :: st) u n kc ks := x_get C gdX10 (ci := 9) rfl 29 (by decide) kfX10_53 rfl hu hv d kk
theorem pfX10_53 {x : Nat} (C : Cx p s m args c G RX10 cc nL z) (d : decode cc pc = .ok (.putfield 53, 3)) (hi : meth.name = "<init>") (hu : u a = some (.inr (9, fs))) (hl : 29 < fs.length) (h2 : fs.set 29 (.ref x) = fs2) (hu2 : hup u a (.inr (9, fs2)) = u2) (kk : Xw p l e R s m args below meth c G z nL Z (pc + 3) lo st u2 n kc ks) : Xw p l e R s m args below meth c G z nL Z pc lo (.ref x :: .ref (z + a) :: st) u n kc ks := by
  subst h2; subst hu2
  exact x_putF C gdX10 tyX10 tyX10_ok nmX10 (ci := 9) rfl 29 (by decide) kfX10_53 rfl rfl hi rfl rfl rfl hu hl d kk
theorem gfX10_264 {v : Value} (C : Cx p s m args c G RX10 cc nL z) (d : decode cc pc = .ok (.getfield 264, 3)) (hu : u a = some (.inr (9, fs))) (hv : fs[30]? = some v) (kk : Xw p l e R s m args below meth c G z nL Z (pc + 3) lo (v :: st) u n kc ks) : Xw p l e R s m args below meth c G z nL Z pc lo (.ref (z + a) :: st) u n kc ks := x_get C gdX10 (ci := 9) rfl 30 (by decide) kfX10_264 rfl hu hv d kk
theorem pfX10_264 {x : Int32} (C : Cx p s m args c G RX10 cc nL z) (d : decode cc pc = .ok (.putfield 264, 3)) (hu : u a = some (.inr (9, fs))) (hl : 30 < fs.length) (h2 : fs.set 30 (.int x) = fs2) (hu2 : hup u a (.inr (9, fs2)) = u2) (kk : Xw p l e R s m args below meth c G z nL Z (pc + 3) lo st u2 n kc ks) : Xw p l e R s m args below meth c G z nL Z pc lo (.int x :: .ref (z + a) :: st) u n kc ks := by
  subst h2; subst hu2
  exact x_put C gdX10 tyX10 tyX10_ok nmX10 (ci := 9) rfl 30 (by decide) kfX10_264 rfl rfl rfl rfl hu hl d kk
theorem gfX10_267 {v : Value} (C : Cx p s m args c G RX10 cc nL z) (d : decode cc pc = .ok (.getfield 267, 3)) (hu : u a = some (.inr (9, fs))) (hv : fs[31]? = some v) (kk : Xw p l e R s m args below meth c G z nL Z (pc + 3) lo (v :: st) u n kc ks) : Xw p l e R s m args below meth c G z nL Z pc lo (.ref (z + a) :: st) u n kc ks := x_get C gdX10 (ci := 9) rfl 31 (by decide) kfX10_267 rfl hu hv d kk
theorem pfX10_267 {x : Int32} (C : Cx p s m args c G RX10 cc nL z) (d : decode cc pc = .ok (.putfield 267, 3)) (hu : u a = some (.inr (9, fs))) (hl : 31 < fs.length) (h2 : fs.set 31 (.int x) = fs2) (hu2 : hup u a (.inr (9, fs2)) = u2) (kk : Xw p l e R s m args below meth c G z nL Z (pc + 3) lo st u2 n kc ks) : Xw p l e R s m args below meth c G z nL Z pc lo (.int x :: .ref (z + a) :: st) u n kc ks := by
  subst h2; subst hu2
  exact x_put C gdX10 tyX10 tyX10_ok nmX10 (ci := 9) rfl 31 (by decide) kfX10_267 rfl rfl rfl rfl hu hl d kk
theorem gfX10_270 {v : Value} (C : Cx p s m args c G RX10 cc nL z) (d : decode cc pc = .ok (.getfield 270, 3)) (hu : u a = some (.inr (9, fs))) (hv : fs[32]? = some v) (kk : Xw p l e R s m args below meth c G z nL Z (pc + 3) lo (v :: st) u n kc ks) : Xw p l e R s m args below meth c G z nL Z pc lo (.ref (z + a) :: st) u n kc ks := x_get C gdX10 (ci := 9) rfl 32 (by decide) kfX10_270 rfl hu hv d kk
theorem pfX10_270 {x : Int32} (C : Cx p s m args c G RX10 cc nL z) (d : decode cc pc = .ok (.putfield 270, 3)) (hu : u a = some (.inr (9, fs))) (hl : 32 < fs.length) (h2 : fs.set 32 (.int x) = fs2) (hu2 : hup u a (.inr (9, fs2)) = u2) (kk : Xw p l e R s m args below meth c G z nL Z (pc + 3) lo st u2 n kc ks) : Xw p l e R s m args below meth c G z nL Z pc lo (.int x :: .ref (z + a) :: st) u n kc ks := by
  subst h2; subst hu2
  exact x_put C gdX10 tyX10 tyX10_ok nmX10 (ci := 9) rfl 32 (by decide) kfX10_270 rfl rfl rfl rfl hu hl d kk
theorem gfX10_56 {v : Value} (C : Cx p s m args c G RX10 cc nL z) (d : decode cc pc = .ok (.getfield 56, 3)) (hu : u a = some (.inr (9, fs))) (hv : fs[33]? = some v) (kk : Xw p l e R s m args below meth c G z nL Z (pc + 3) lo (v :: st) u n kc ks) : Xw p l e R s m args below meth c G z nL Z pc lo (.ref (z + a) :: st) u n kc ks := x_get C gdX10 (ci := 9) rfl 33 (by decide) kfX10_56 rfl hu hv d kk
theorem pfX10_56 {x : Nat} (C : Cx p s m args c G RX10 cc nL z) (d : decode cc pc = .ok (.putfield 56, 3)) (hi : meth.name = "<init>") (hu : u a = some (.inr (9, fs))) (hl : 33 < fs.length) (h2 : fs.set 33 (.ref x) = fs2) (hu2 : hup u a (.inr (9, fs2)) = u2) (kk : Xw p l e R s m args below meth c G z nL Z (pc + 3) lo st u2 n kc ks) : Xw p l e R s m args below meth c G z nL Z pc lo (.ref x :: .ref (z + a) :: st) u n kc ks := by
  subst h2; subst hu2
  exact x_putF C gdX10 tyX10 tyX10_ok nmX10 (ci := 9) rfl 33 (by decide) kfX10_56 rfl rfl hi rfl rfl rfl hu hl d kk
theorem gfX10_162 {v : Value} (C : Cx p s m args c G RX10 cc nL z) (d : decode cc pc = .ok (.getfield 162, 3)) (hu : u a = some (.inr (9, fs))) (hv : fs[34]? = some v) (kk : Xw p l e R s m args below meth c G z nL Z (pc + 3) lo (v :: st) u n kc ks) : Xw p l e R s m args below meth c G z nL Z pc lo (.ref (z + a) :: st) u n kc ks := x_get C gdX10 (ci := 9) rfl 34 (by decide) kfX10_162 rfl hu hv d kk
theorem pfX10_162 {x : Int32} (C : Cx p s m args c G RX10 cc nL z) (d : decode cc pc = .ok (.putfield 162, 3)) (hu : u a = some (.inr (9, fs))) (hl : 34 < fs.length) (h2 : fs.set 34 (.int x) = fs2) (hu2 : hup u a (.inr (9, fs2)) = u2) (kk : Xw p l e R s m args below meth c G z nL Z (pc + 3) lo st u2 n kc ks) : Xw p l e R s m args below meth c G z nL Z pc lo (.int x :: .ref (z + a) :: st) u n kc ks := by
  subst h2; subst hu2
  exact x_put C gdX10 tyX10 tyX10_ok nmX10 (ci := 9) rfl 34 (by decide) kfX10_162 rfl rfl rfl rfl hu hl d kk
theorem gfX10_59 {v : Value} (C : Cx p s m args c G RX10 cc nL z) (d : decode cc pc = .ok (.getfield 59, 3)) (hu : u a = some (.inr (9, fs))) (hv : fs[35]? = some v) (kk : Xw p l e R s m args below meth c G z nL Z (pc + 3) lo (v :: st) u n kc ks) : Xw p l e R s m args below meth c G z nL Z pc lo (.ref (z + a) :: st) u n kc ks := x_get C gdX10 (ci := 9) rfl 35 (by decide) kfX10_59 rfl hu hv d kk
theorem pfX10_59 {x : Nat} (C : Cx p s m args c G RX10 cc nL z) (d : decode cc pc = .ok (.putfield 59, 3)) (hi : meth.name = "<init>") (hu : u a = some (.inr (9, fs))) (hl : 35 < fs.length) (h2 : fs.set 35 (.ref x) = fs2) (hu2 : hup u a (.inr (9, fs2)) = u2) (kk : Xw p l e R s m args below meth c G z nL Z (pc + 3) lo st u2 n kc ks) : Xw p l e R s m args below meth c G z nL Z pc lo (.ref x :: .ref (z + a) :: st) u n kc ks := by
  subst h2; subst hu2
  exact x_putF C gdX10 tyX10 tyX10_ok nmX10 (ci := 9) rfl 35 (by decide) kfX10_59 rfl rfl hi rfl rfl rfl hu hl d kk
theorem gfX10_62 {v : Value} (C : Cx p s m args c G RX10 cc nL z) (d : decode cc pc = .ok (.getfield 62, 3)) (hu : u a = some (.inr (9, fs))) (hv : fs[36]? = some v) (kk : Xw p l e R s m args below meth c G z nL Z (pc + 3) lo (v :: st) u n kc ks) : Xw p l e R s m args below meth c G z nL Z pc lo (.ref (z + a) :: st) u n kc ks := x_get C gdX10 (ci := 9) rfl 36 (by decide) kfX10_62 rfl hu hv d kk
theorem pfX10_62 {x : Nat} (C : Cx p s m args c G RX10 cc nL z) (d : decode cc pc = .ok (.putfield 62, 3)) (hi : meth.name = "<init>") (hu : u a = some (.inr (9, fs))) (hl : 36 < fs.length) (h2 : fs.set 36 (.ref x) = fs2) (hu2 : hup u a (.inr (9, fs2)) = u2) (kk : Xw p l e R s m args below meth c G z nL Z (pc + 3) lo st u2 n kc ks) : Xw p l e R s m args below meth c G z nL Z pc lo (.ref x :: .ref (z + a) :: st) u n kc ks := by
  subst h2; subst hu2
  exact x_putF C gdX10 tyX10 tyX10_ok nmX10 (ci := 9) rfl 36 (by decide) kfX10_62 rfl rfl hi rfl rfl rfl hu hl d kk
theorem gfX10_165 {v : Value} (C : Cx p s m args c G RX10 cc nL z) (d : decode cc pc = .ok (.getfield 165, 3)) (hu : u a = some (.inr (9, fs))) (hv : fs[37]? = some v) (kk : Xw p l e R s m args below meth c G z nL Z (pc + 3) lo (v :: st) u n kc ks) : Xw p l e R s m args below meth c G z nL Z pc lo (.ref (z + a) :: st) u n kc ks := x_get C gdX10 (ci := 9) rfl 37 (by decide) kfX10_165 rfl hu hv d kk
theorem pfX10_165 {x : Int32} (C : Cx p s m args c G RX10 cc nL z) (d : decode cc pc = .ok (.putfield 165, 3)) (hu : u a = some (.inr (9, fs))) (hl : 37 < fs.length) (h2 : fs.set 37 (.int x) = fs2) (hu2 : hup u a (.inr (9, fs2)) = u2) (kk : Xw p l e R s m args below meth c G z nL Z (pc + 3) lo st u2 n kc ks) : Xw p l e R s m args below meth c G z nL Z pc lo (.int x :: .ref (z + a) :: st) u n kc ks := by
  subst h2; subst hu2
  exact x_put C gdX10 tyX10 tyX10_ok nmX10 (ci := 9) rfl 37 (by decide) kfX10_165 rfl rfl rfl rfl hu hl d kk
theorem gfX10_65 {v : Value} (C : Cx p s m args c G RX10 cc nL z) (d : decode cc pc = .ok (.getfield 65, 3)) (hu : u a = some (.inr (9, fs))) (hv : fs[38]? = some v) (kk : Xw p l e R s m args below meth c G z nL Z (pc + 3) lo (v :: st) u n kc ks) : Xw p l e R s m args below meth c G z nL Z pc lo (.ref (z + a) :: st) u n kc ks := x_get C gdX10 (ci := 9) rfl 38 (by decide) kfX10_65 rfl hu hv d kk
theorem pfX10_65 {x : Nat} (C : Cx p s m args c G RX10 cc nL z) (d : decode cc pc = .ok (.putfield 65, 3)) (hi : meth.name = "<init>") (hu : u a = some (.inr (9, fs))) (hl : 38 < fs.length) (h2 : fs.set 38 (.ref x) = fs2) (hu2 : hup u a (.inr (9, fs2)) = u2) (kk : Xw p l e R s m args below meth c G z nL Z (pc + 3) lo st u2 n kc ks) : Xw p l e R s m args below meth c G z nL Z pc lo (.ref x :: .ref (z + a) :: st) u n kc ks := by
  subst h2; subst hu2
  exact x_putF C gdX10 tyX10 tyX10_ok nmX10 (ci := 9) rfl 38 (by decide) kfX10_65 rfl rfl hi rfl rfl rfl hu hl d kk
theorem gfX10_68 {v : Value} (C : Cx p s m args c G RX10 cc nL z) (d : decode cc pc = .ok (.getfield 68, 3)) (hu : u a = some (.inr (9, fs))) (hv : fs[39]? = some v) (kk : Xw p l e R s m args below meth c G z nL Z (pc + 3) lo (v :: st) u n kc ks) : Xw p l e R s m args below meth c G z nL Z pc lo (.ref (z + a) :: st) u n kc ks := x_get C gdX10 (ci := 9) rfl 39 (by decide) kfX10_68 rfl hu hv d kk
theorem pfX10_68 {x : Nat} (C : Cx p s m args c G RX10 cc nL z) (d : decode cc pc = .ok (.putfield 68, 3)) (hi : meth.name = "<init>") (hu : u a = some (.inr (9, fs))) (hl : 39 < fs.length) (h2 : fs.set 39 (.ref x) = fs2) (hu2 : hup u a (.inr (9, fs2)) = u2) (kk : Xw p l e R s m args below meth c G z nL Z (pc + 3) lo st u2 n kc ks) : Xw p l e R s m args below meth c G z nL Z pc lo (.ref x :: .ref (z + a) :: st) u n kc ks := by
  subst h2; subst hu2
  exact x_putF C gdX10 tyX10 tyX10_ok nmX10 (ci := 9) rfl 39 (by decide) kfX10_68 rfl rfl hi rfl rfl rfl hu hl d kk
theorem gfX10_71 {v : Value} (C : Cx p s m args c G RX10 cc nL z) (d : decode cc pc = .ok (.getfield 71, 3)) (hu : u a = some (.inr (9, fs))) (hv : fs[40]? = some v) (kk : Xw p l e R s m args below meth c G z nL Z (pc + 3) lo (v :: st) u n kc ks) : Xw p l e R s m args below meth c G z nL Z pc lo (.ref (z + a) :: st) u n kc ks := x_get C gdX10 (ci := 9) rfl 40 (by decide) kfX10_71 rfl hu hv d kk
theorem pfX10_71 {x : Nat} (C : Cx p s m args c G RX10 cc nL z) (d : decode cc pc = .ok (.putfield 71, 3)) (hi : meth.name = "<init>") (hu : u a = some (.inr (9, fs))) (hl : 40 < fs.length) (h2 : fs.set 40 (.ref x) = fs2) (hu2 : hup u a (.inr (9, fs2)) = u2) (kk : Xw p l e R s m args below meth c G z nL Z (pc + 3) lo st u2 n kc ks) : Xw p l e R s m args below meth c G z nL Z pc lo (.ref x :: .ref (z + a) :: st) u n kc ks := by
  subst h2; subst hu2
  exact x_putF C gdX10 tyX10 tyX10_ok nmX10 (ci := 9) rfl 40 (by decide) kfX10_71 rfl rfl hi rfl rfl rfl hu hl d kk
theorem gfX10_75 {v : Value} (C : Cx p s m args c G RX10 cc nL z) (d : decode cc pc = .ok (.getfield 75, 3)) (hu : u a = some (.inr (9, fs))) (hv : fs[41]? = some v) (kk : Xw p l e R s m args below meth c G z nL Z (pc + 3) lo (v :: st) u n kc ks) : Xw p l e R s m args below meth c G z nL Z pc lo (.ref (z + a) :: st) u n kc ks := x_get C gdX10 (ci := 9) rfl 41 (by decide) kfX10_75 rfl hu hv d kk
theorem pfX10_75 {x : Nat} (C : Cx p s m args c G RX10 cc nL z) (d : decode cc pc = .ok (.putfield 75, 3)) (hi : meth.name = "<init>") (hu : u a = some (.inr (9, fs))) (hl : 41 < fs.length) (h2 : fs.set 41 (.ref x) = fs2) (hu2 : hup u a (.inr (9, fs2)) = u2) (kk : Xw p l e R s m args below meth c G z nL Z (pc + 3) lo st u2 n kc ks) : Xw p l e R s m args below meth c G z nL Z pc lo (.ref x :: .ref (z + a) :: st) u n kc ks := by
  subst h2; subst hu2
  exact x_putF C gdX10 tyX10 tyX10_ok nmX10 (ci := 9) rfl 41 (by decide) kfX10_75 rfl rfl hi rfl rfl rfl hu hl d kk
theorem gfX10_78 {v : Value} (C : Cx p s m args c G RX10 cc nL z) (d : decode cc pc = .ok (.getfield 78, 3)) (hu : u a = some (.inr (9, fs))) (hv : fs[42]? = some v) (kk : Xw p l e R s m args below meth c G z nL Z (pc + 3) lo (v :: st) u n kc ks) : Xw p l e R s m args below meth c G z nL Z pc lo (.ref (z + a) :: st) u n kc ks := x_get C gdX10 (ci := 9) rfl 42 (by decide) kfX10_78 rfl hu hv d kk
theorem pfX10_78 {x : Nat} (C : Cx p s m args c G RX10 cc nL z) (d : decode cc pc = .ok (.putfield 78, 3)) (hi : meth.name = "<init>") (hu : u a = some (.inr (9, fs))) (hl : 42 < fs.length) (h2 : fs.set 42 (.ref x) = fs2) (hu2 : hup u a (.inr (9, fs2)) = u2) (kk : Xw p l e R s m args below meth c G z nL Z (pc + 3) lo st u2 n kc ks) : Xw p l e R s m args below meth c G z nL Z pc lo (.ref x :: .ref (z + a) :: st) u n kc ks := by
  subst h2; subst hu2
  exact x_putF C gdX10 tyX10 tyX10_ok nmX10 (ci := 9) rfl 42 (by decide) kfX10_78 rfl rfl hi rfl rfl rfl hu hl d kk
end FR
end
