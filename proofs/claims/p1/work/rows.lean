section
-- ===== PART A: goes FIRST, ahead of the names: the tables' words, and 'selects' of the private methods out of them =====
/-- a private method of a class that the tables say can be made, by its rows of tables_1 -/
def lw_okq (q : MethodName × Nat) : Prop := (q.1.cls ≠ "java/lang/invoke/MethodHandle" ∧ q.1.cls ≠ "java/lang/invoke/VarHandle") ∧ Cond.instantiable q.1.cls q.2 ∈ tables_1 ∧ Cond.privateMethod q.1 ∈ tables_1 ∧ Cond.instanceMethod q.1 ∈ tables_1
theorem lw_p0 : lw_okq (⟨"TollDelay$Reader", "skipBlanks", "()V"⟩, 5) := ⟨⟨by decide +kernel, by decide +kernel⟩, List.mem_of_getElem? (i := 23) (by decide +kernel), List.mem_of_getElem? (i := 341) (by decide +kernel), List.mem_of_getElem? (i := 342) (by decide +kernel)⟩
theorem lw_p1 : lw_okq (⟨"TollDelay$Reader", "nextLetter", "()I"⟩, 5) := ⟨⟨by decide +kernel, by decide +kernel⟩, List.mem_of_getElem? (i := 23) (by decide +kernel), List.mem_of_getElem? (i := 345) (by decide +kernel), List.mem_of_getElem? (i := 346) (by decide +kernel)⟩
theorem lw_p2 : lw_okq (⟨"TollDelay$Reader", "readClause", "(LTollDelay$Bridge;)V"⟩, 5) := ⟨⟨by decide +kernel, by decide +kernel⟩, List.mem_of_getElem? (i := 23) (by decide +kernel), List.mem_of_getElem? (i := 349) (by decide +kernel), List.mem_of_getElem? (i := 350) (by decide +kernel)⟩
theorem lw_p3 : lw_okq (⟨"TollDelay$Reader", "note", "(II)V"⟩, 5) := ⟨⟨by decide +kernel, by decide +kernel⟩, List.mem_of_getElem? (i := 23) (by decide +kernel), List.mem_of_getElem? (i := 360) (by decide +kernel), List.mem_of_getElem? (i := 361) (by decide +kernel)⟩
theorem lw_p4 : lw_okq (⟨"TollDelay$Reader", "readRate", "(LTollDelay$Bridge;)V"⟩, 5) := ⟨⟨by decide +kernel, by decide +kernel⟩, List.mem_of_getElem? (i := 23) (by decide +kernel), List.mem_of_getElem? (i := 364) (by decide +kernel), List.mem_of_getElem? (i := 365) (by decide +kernel)⟩
theorem lw_p5 : lw_okq (⟨"TollDelay$Reader", "readNumber", "(II)I"⟩, 5) := ⟨⟨by decide +kernel, by decide +kernel⟩, List.mem_of_getElem? (i := 23) (by decide +kernel), List.mem_of_getElem? (i := 368) (by decide +kernel), List.mem_of_getElem? (i := 369) (by decide +kernel)⟩
theorem lw_p6 : lw_okq (⟨"TollDelay$Reader", "readEnd", "()Z"⟩, 5) := ⟨⟨by decide +kernel, by decide +kernel⟩, List.mem_of_getElem? (i := 23) (by decide +kernel), List.mem_of_getElem? (i := 375) (by decide +kernel), List.mem_of_getElem? (i := 376) (by decide +kernel)⟩
theorem lw_p7 : lw_okq (⟨"TollDelay$Reader", "readMatter", "(LTollDelay$Bridge;)V"⟩, 5) := ⟨⟨by decide +kernel, by decide +kernel⟩, List.mem_of_getElem? (i := 23) (by decide +kernel), List.mem_of_getElem? (i := 379) (by decide +kernel), List.mem_of_getElem? (i := 380) (by decide +kernel)⟩
theorem lw_p8 : lw_okq (⟨"TollDelay$Reader", "readTraveller", "(LTollDelay$Bridge;)V"⟩, 5) := ⟨⟨by decide +kernel, by decide +kernel⟩, List.mem_of_getElem? (i := 23) (by decide +kernel), List.mem_of_getElem? (i := 387) (by decide +kernel), List.mem_of_getElem? (i := 388) (by decide +kernel)⟩
theorem lw_p9 : lw_okq (⟨"TollDelay$Bridge", "beginnersOf", "(I)I"⟩, 10) := ⟨⟨by decide +kernel, by decide +kernel⟩, List.mem_of_getElem? (i := 201) (by decide +kernel), List.mem_of_getElem? (i := 402) (by decide +kernel), List.mem_of_getElem? (i := 403) (by decide +kernel)⟩
theorem lw_p10 : lw_okq (⟨"TollDelay", "beginBridge", "()V"⟩, 12) := ⟨⟨by decide +kernel, by decide +kernel⟩, List.mem_of_getElem? (i := 15) (by decide +kernel), List.mem_of_getElem? (i := 413) (by decide +kernel), List.mem_of_getElem? (i := 414) (by decide +kernel)⟩
theorem lw_p11 : lw_okq (⟨"TollDelay$Evening", "emptySeat", "()V"⟩, 12) := ⟨⟨by decide +kernel, by decide +kernel⟩, List.mem_of_getElem? (i := 49) (by decide +kernel), List.mem_of_getElem? (i := 425) (by decide +kernel), List.mem_of_getElem? (i := 426) (by decide +kernel)⟩
theorem lw_p12 : lw_okq (⟨"TollDelay$Talk", "worthOfAll", "(LTollDelay$Bridge;I)I"⟩, 4) := ⟨⟨by decide +kernel, by decide +kernel⟩, List.mem_of_getElem? (i := 128) (by decide +kernel), List.mem_of_getElem? (i := 459) (by decide +kernel), List.mem_of_getElem? (i := 460) (by decide +kernel)⟩
theorem lw_p13 : lw_okq (⟨"TollDelay$Talk", "weigh", "(II)V"⟩, 4) := ⟨⟨by decide +kernel, by decide +kernel⟩, List.mem_of_getElem? (i := 128) (by decide +kernel), List.mem_of_getElem? (i := 491) (by decide +kernel), List.mem_of_getElem? (i := 492) (by decide +kernel)⟩
theorem lw_p14 : lw_okq (⟨"TollDelay", "toldOfEvening", "(I)I"⟩, 12) := ⟨⟨by decide +kernel, by decide +kernel⟩, List.mem_of_getElem? (i := 15) (by decide +kernel), List.mem_of_getElem? (i := 500) (by decide +kernel), List.mem_of_getElem? (i := 501) (by decide +kernel)⟩
theorem lw_p15 : lw_okq (⟨"TollDelay$Bridge", "oneStepFrom", "(I)I"⟩, 10) := ⟨⟨by decide +kernel, by decide +kernel⟩, List.mem_of_getElem? (i := 201) (by decide +kernel), List.mem_of_getElem? (i := 514) (by decide +kernel), List.mem_of_getElem? (i := 515) (by decide +kernel)⟩
def lw_privs_1 : List (MethodName × Nat) := [(⟨"TollDelay$Reader", "skipBlanks", "()V"⟩, 5), (⟨"TollDelay$Reader", "nextLetter", "()I"⟩, 5), (⟨"TollDelay$Reader", "readClause", "(LTollDelay$Bridge;)V"⟩, 5), (⟨"TollDelay$Reader", "note", "(II)V"⟩, 5), (⟨"TollDelay$Reader", "readRate", "(LTollDelay$Bridge;)V"⟩, 5), (⟨"TollDelay$Reader", "readNumber", "(II)I"⟩, 5), (⟨"TollDelay$Reader", "readEnd", "()Z"⟩, 5), (⟨"TollDelay$Reader", "readMatter", "(LTollDelay$Bridge;)V"⟩, 5), (⟨"TollDelay$Reader", "readTraveller", "(LTollDelay$Bridge;)V"⟩, 5), (⟨"TollDelay$Bridge", "beginnersOf", "(I)I"⟩, 10), (⟨"TollDelay", "beginBridge", "()V"⟩, 12), (⟨"TollDelay$Evening", "emptySeat", "()V"⟩, 12), (⟨"TollDelay$Talk", "worthOfAll", "(LTollDelay$Bridge;I)I"⟩, 4), (⟨"TollDelay$Talk", "weigh", "(II)V"⟩, 4), (⟨"TollDelay", "toldOfEvening", "(I)I"⟩, 12), (⟨"TollDelay$Bridge", "oneStepFrom", "(I)I"⟩, 10)]
theorem lw_r1 : ∀ q ∈ lw_privs_1, lw_okq q := List.forall_mem_cons.mpr ⟨lw_p0, List.forall_mem_cons.mpr ⟨lw_p1, List.forall_mem_cons.mpr ⟨lw_p2, List.forall_mem_cons.mpr ⟨lw_p3, List.forall_mem_cons.mpr ⟨lw_p4, List.forall_mem_cons.mpr ⟨lw_p5, List.forall_mem_cons.mpr ⟨lw_p6, List.forall_mem_cons.mpr ⟨lw_p7, List.forall_mem_cons.mpr ⟨lw_p8, List.forall_mem_cons.mpr ⟨lw_p9, List.forall_mem_cons.mpr ⟨lw_p10, List.forall_mem_cons.mpr ⟨lw_p11, List.forall_mem_cons.mpr ⟨lw_p12, List.forall_mem_cons.mpr ⟨lw_p13, List.forall_mem_cons.mpr ⟨lw_p14, List.forall_mem_cons.mpr ⟨lw_p15, fun _ h => absurd h List.not_mem_nil⟩⟩⟩⟩⟩⟩⟩⟩⟩⟩⟩⟩⟩⟩⟩⟩
theorem lw_p16 : lw_okq (⟨"TollDelay$Evening", "follows", "(LTollDelay$Bridge;I)Z"⟩, 12) := ⟨⟨by decide +kernel, by decide +kernel⟩, List.mem_of_getElem? (i := 49) (by decide +kernel), List.mem_of_getElem? (i := 574) (by decide +kernel), List.mem_of_getElem? (i := 575) (by decide +kernel)⟩
theorem lw_p17 : lw_okq (⟨"TollDelay$Evening", "takeUp", "(I)V"⟩, 12) := ⟨⟨by decide +kernel, by decide +kernel⟩, List.mem_of_getElem? (i := 49) (by decide +kernel), List.mem_of_getElem? (i := 590) (by decide +kernel), List.mem_of_getElem? (i := 591) (by decide +kernel)⟩
theorem lw_p18 : lw_okq (⟨"TollDelay", "driftOnce", "()V"⟩, 12) := ⟨⟨by decide +kernel, by decide +kernel⟩, List.mem_of_getElem? (i := 15) (by decide +kernel), List.mem_of_getElem? (i := 625) (by decide +kernel), List.mem_of_getElem? (i := 626) (by decide +kernel)⟩
theorem lw_p19 : lw_okq (⟨"TollDelay", "drawSeat", "()V"⟩, 12) := ⟨⟨by decide +kernel, by decide +kernel⟩, List.mem_of_getElem? (i := 15) (by decide +kernel), List.mem_of_getElem? (i := 629) (by decide +kernel), List.mem_of_getElem? (i := 630) (by decide +kernel)⟩
theorem lw_p20 : lw_okq (⟨"TollDelay", "drawOf", "(I)I"⟩, 12) := ⟨⟨by decide +kernel, by decide +kernel⟩, List.mem_of_getElem? (i := 15) (by decide +kernel), List.mem_of_getElem? (i := 633) (by decide +kernel), List.mem_of_getElem? (i := 634) (by decide +kernel)⟩
theorem lw_p21 : lw_okq (⟨"TollDelay", "drawTelling", "()V"⟩, 12) := ⟨⟨by decide +kernel, by decide +kernel⟩, List.mem_of_getElem? (i := 15) (by decide +kernel), List.mem_of_getElem? (i := 641) (by decide +kernel), List.mem_of_getElem? (i := 642) (by decide +kernel)⟩
theorem lw_p22 : lw_okq (⟨"TollDelay$Line", "payOfOrder", "()I"⟩, 7) := ⟨⟨by decide +kernel, by decide +kernel⟩, List.mem_of_getElem? (i := 151) (by decide +kernel), List.mem_of_getElem? (i := 680) (by decide +kernel), List.mem_of_getElem? (i := 681) (by decide +kernel)⟩
theorem lw_p23 : lw_okq (⟨"TollDelay$Line", "figuresOfOrder", "()I"⟩, 7) := ⟨⟨by decide +kernel, by decide +kernel⟩, List.mem_of_getElem? (i := 151) (by decide +kernel), List.mem_of_getElem? (i := 684) (by decide +kernel), List.mem_of_getElem? (i := 685) (by decide +kernel)⟩
theorem lw_p24 : lw_okq (⟨"TollDelay$Line", "nextOrder", "()Z"⟩, 7) := ⟨⟨by decide +kernel, by decide +kernel⟩, List.mem_of_getElem? (i := 151) (by decide +kernel), List.mem_of_getElem? (i := 688) (by decide +kernel), List.mem_of_getElem? (i := 689) (by decide +kernel)⟩
theorem lw_p25 : lw_okq (⟨"TollDelay$Line", "swap", "(II)V"⟩, 7) := ⟨⟨by decide +kernel, by decide +kernel⟩, List.mem_of_getElem? (i := 151) (by decide +kernel), List.mem_of_getElem? (i := 692) (by decide +kernel), List.mem_of_getElem? (i := 693) (by decide +kernel)⟩
theorem lw_p26 : lw_okq (⟨"TollDelay$Entries", "fits", "(LTollDelay$Bridge;I)Z"⟩, 3) := ⟨⟨by decide +kernel, by decide +kernel⟩, List.mem_of_getElem? (i := 181) (by decide +kernel), List.mem_of_getElem? (i := 718) (by decide +kernel), List.mem_of_getElem? (i := 719) (by decide +kernel)⟩
theorem lw_p27 : lw_okq (⟨"TollDelayModel", "readsBridge", "()Z"⟩, 43) := ⟨⟨by decide +kernel, by decide +kernel⟩, List.mem_of_getElem? (i := 769) (by decide +kernel), List.mem_of_getElem? (i := 920) (by decide +kernel), List.mem_of_getElem? (i := 921) (by decide +kernel)⟩
theorem lw_p28 : lw_okq (⟨"TollDelayModel", "nextLetter", "()I"⟩, 43) := ⟨⟨by decide +kernel, by decide +kernel⟩, List.mem_of_getElem? (i := 769) (by decide +kernel), List.mem_of_getElem? (i := 924) (by decide +kernel), List.mem_of_getElem? (i := 925) (by decide +kernel)⟩
theorem lw_p29 : lw_okq (⟨"TollDelayModel", "letterAt", "(I)I"⟩, 43) := ⟨⟨by decide +kernel, by decide +kernel⟩, List.mem_of_getElem? (i := 769) (by decide +kernel), List.mem_of_getElem? (i := 928) (by decide +kernel), List.mem_of_getElem? (i := 929) (by decide +kernel)⟩
theorem lw_p30 : lw_okq (⟨"TollDelayModel", "readsClause", "()Z"⟩, 43) := ⟨⟨by decide +kernel, by decide +kernel⟩, List.mem_of_getElem? (i := 769) (by decide +kernel), List.mem_of_getElem? (i := 932) (by decide +kernel), List.mem_of_getElem? (i := 933) (by decide +kernel)⟩
theorem lw_p31 : lw_okq (⟨"TollDelayModel", "readsHead", "()Z"⟩, 43) := ⟨⟨by decide +kernel, by decide +kernel⟩, List.mem_of_getElem? (i := 769) (by decide +kernel), List.mem_of_getElem? (i := 936) (by decide +kernel), List.mem_of_getElem? (i := 937) (by decide +kernel)⟩
def lw_privs_2 : List (MethodName × Nat) := [(⟨"TollDelay$Evening", "follows", "(LTollDelay$Bridge;I)Z"⟩, 12), (⟨"TollDelay$Evening", "takeUp", "(I)V"⟩, 12), (⟨"TollDelay", "driftOnce", "()V"⟩, 12), (⟨"TollDelay", "drawSeat", "()V"⟩, 12), (⟨"TollDelay", "drawOf", "(I)I"⟩, 12), (⟨"TollDelay", "drawTelling", "()V"⟩, 12), (⟨"TollDelay$Line", "payOfOrder", "()I"⟩, 7), (⟨"TollDelay$Line", "figuresOfOrder", "()I"⟩, 7), (⟨"TollDelay$Line", "nextOrder", "()Z"⟩, 7), (⟨"TollDelay$Line", "swap", "(II)V"⟩, 7), (⟨"TollDelay$Entries", "fits", "(LTollDelay$Bridge;I)Z"⟩, 3), (⟨"TollDelayModel", "readsBridge", "()Z"⟩, 43), (⟨"TollDelayModel", "nextLetter", "()I"⟩, 43), (⟨"TollDelayModel", "letterAt", "(I)I"⟩, 43), (⟨"TollDelayModel", "readsClause", "()Z"⟩, 43), (⟨"TollDelayModel", "readsHead", "()Z"⟩, 43)]
theorem lw_r2 : ∀ q ∈ lw_privs_2, lw_okq q := List.forall_mem_cons.mpr ⟨lw_p16, List.forall_mem_cons.mpr ⟨lw_p17, List.forall_mem_cons.mpr ⟨lw_p18, List.forall_mem_cons.mpr ⟨lw_p19, List.forall_mem_cons.mpr ⟨lw_p20, List.forall_mem_cons.mpr ⟨lw_p21, List.forall_mem_cons.mpr ⟨lw_p22, List.forall_mem_cons.mpr ⟨lw_p23, List.forall_mem_cons.mpr ⟨lw_p24, List.forall_mem_cons.mpr ⟨lw_p25, List.forall_mem_cons.mpr ⟨lw_p26, List.forall_mem_cons.mpr ⟨lw_p27, List.forall_mem_cons.mpr ⟨lw_p28, List.forall_mem_cons.mpr ⟨lw_p29, List.forall_mem_cons.mpr ⟨lw_p30, List.forall_mem_cons.mpr ⟨lw_p31, fun _ h => absurd h List.not_mem_nil⟩⟩⟩⟩⟩⟩⟩⟩⟩⟩⟩⟩⟩⟩⟩⟩
theorem lw_p32 : lw_okq (⟨"TollDelayModel", "readsNumber", "(II)I"⟩, 43) := ⟨⟨by decide +kernel, by decide +kernel⟩, List.mem_of_getElem? (i := 769) (by decide +kernel), List.mem_of_getElem? (i := 940) (by decide +kernel), List.mem_of_getElem? (i := 941) (by decide +kernel)⟩
theorem lw_p33 : lw_okq (⟨"TollDelayModel", "fails", "(II)I"⟩, 43) := ⟨⟨by decide +kernel, by decide +kernel⟩, List.mem_of_getElem? (i := 769) (by decide +kernel), List.mem_of_getElem? (i := 944) (by decide +kernel), List.mem_of_getElem? (i := 945) (by decide +kernel)⟩
theorem lw_p34 : lw_okq (⟨"TollDelayModel", "readsSign", "(I)Z"⟩, 43) := ⟨⟨by decide +kernel, by decide +kernel⟩, List.mem_of_getElem? (i := 769) (by decide +kernel), List.mem_of_getElem? (i := 948) (by decide +kernel), List.mem_of_getElem? (i := 949) (by decide +kernel)⟩
theorem lw_p35 : lw_okq (⟨"TollDelayModel", "readsMatter", "()Z"⟩, 43) := ⟨⟨by decide +kernel, by decide +kernel⟩, List.mem_of_getElem? (i := 769) (by decide +kernel), List.mem_of_getElem? (i := 952) (by decide +kernel), List.mem_of_getElem? (i := 953) (by decide +kernel)⟩
theorem lw_p36 : lw_okq (⟨"TollDelayModel", "readsTraveller", "()Z"⟩, 43) := ⟨⟨by decide +kernel, by decide +kernel⟩, List.mem_of_getElem? (i := 769) (by decide +kernel), List.mem_of_getElem? (i := 956) (by decide +kernel), List.mem_of_getElem? (i := 957) (by decide +kernel)⟩
theorem lw_p37 : lw_okq (⟨"TollDelayModel", "are", "(I)I"⟩, 43) := ⟨⟨by decide +kernel, by decide +kernel⟩, List.mem_of_getElem? (i := 769) (by decide +kernel), List.mem_of_getElem? (i := 968) (by decide +kernel), List.mem_of_getElem? (i := 969) (by decide +kernel)⟩
theorem lw_p38 : lw_okq (⟨"TollDelayModel", "nobodys", "()I"⟩, 43) := ⟨⟨by decide +kernel, by decide +kernel⟩, List.mem_of_getElem? (i := 769) (by decide +kernel), List.mem_of_getElem? (i := 972) (by decide +kernel), List.mem_of_getElem? (i := 973) (by decide +kernel)⟩
theorem lw_p39 : lw_okq (⟨"TollDelayModel", "longestSat", "()I"⟩, 43) := ⟨⟨by decide +kernel, by decide +kernel⟩, List.mem_of_getElem? (i := 769) (by decide +kernel), List.mem_of_getElem? (i := 976) (by decide +kernel), List.mem_of_getElem? (i := 977) (by decide +kernel)⟩
theorem lw_p40 : lw_okq (⟨"TollDelayModel", "bestToLearn", "()I"⟩, 43) := ⟨⟨by decide +kernel, by decide +kernel⟩, List.mem_of_getElem? (i := 769) (by decide +kernel), List.mem_of_getElem? (i := 980) (by decide +kernel), List.mem_of_getElem? (i := 981) (by decide +kernel)⟩
theorem lw_p41 : lw_okq (⟨"TollDelayModel", "worthOfAll", "(I)I"⟩, 43) := ⟨⟨by decide +kernel, by decide +kernel⟩, List.mem_of_getElem? (i := 769) (by decide +kernel), List.mem_of_getElem? (i := 987) (by decide +kernel), List.mem_of_getElem? (i := 988) (by decide +kernel)⟩
theorem lw_p42 : lw_okq (⟨"TollDelayModel", "layTalk", "(II)V"⟩, 43) := ⟨⟨by decide +kernel, by decide +kernel⟩, List.mem_of_getElem? (i := 769) (by decide +kernel), List.mem_of_getElem? (i := 991) (by decide +kernel), List.mem_of_getElem? (i := 992) (by decide +kernel)⟩
theorem lw_p43 : lw_okq (⟨"TollDelayModel", "layTalks", "(I)V"⟩, 43) := ⟨⟨by decide +kernel, by decide +kernel⟩, List.mem_of_getElem? (i := 769) (by decide +kernel), List.mem_of_getElem? (i := 995) (by decide +kernel), List.mem_of_getElem? (i := 996) (by decide +kernel)⟩
theorem lw_p44 : lw_okq (⟨"TollDelayModel", "stayOf", "(II)I"⟩, 43) := ⟨⟨by decide +kernel, by decide +kernel⟩, List.mem_of_getElem? (i := 769) (by decide +kernel), List.mem_of_getElem? (i := 999) (by decide +kernel), List.mem_of_getElem? (i := 1000) (by decide +kernel)⟩
theorem lw_p45 : lw_okq (⟨"TollDelayModel", "payFor", "(I)I"⟩, 43) := ⟨⟨by decide +kernel, by decide +kernel⟩, List.mem_of_getElem? (i := 769) (by decide +kernel), List.mem_of_getElem? (i := 1006) (by decide +kernel), List.mem_of_getElem? (i := 1007) (by decide +kernel)⟩
theorem lw_p46 : lw_okq (⟨"TollDelayModel", "isMatter", "(I)Z"⟩, 43) := ⟨⟨by decide +kernel, by decide +kernel⟩, List.mem_of_getElem? (i := 769) (by decide +kernel), List.mem_of_getElem? (i := 1014) (by decide +kernel), List.mem_of_getElem? (i := 1015) (by decide +kernel)⟩
theorem lw_p47 : lw_okq (⟨"TollDelayModel", "leadsFrom", "(I)I"⟩, 43) := ⟨⟨by decide +kernel, by decide +kernel⟩, List.mem_of_getElem? (i := 769) (by decide +kernel), List.mem_of_getElem? (i := 1019) (by decide +kernel), List.mem_of_getElem? (i := 1020) (by decide +kernel)⟩
def lw_privs_3 : List (MethodName × Nat) := [(⟨"TollDelayModel", "readsNumber", "(II)I"⟩, 43), (⟨"TollDelayModel", "fails", "(II)I"⟩, 43), (⟨"TollDelayModel", "readsSign", "(I)Z"⟩, 43), (⟨"TollDelayModel", "readsMatter", "()Z"⟩, 43), (⟨"TollDelayModel", "readsTraveller", "()Z"⟩, 43), (⟨"TollDelayModel", "are", "(I)I"⟩, 43), (⟨"TollDelayModel", "nobodys", "()I"⟩, 43), (⟨"TollDelayModel", "longestSat", "()I"⟩, 43), (⟨"TollDelayModel", "bestToLearn", "()I"⟩, 43), (⟨"TollDelayModel", "worthOfAll", "(I)I"⟩, 43), (⟨"TollDelayModel", "layTalk", "(II)V"⟩, 43), (⟨"TollDelayModel", "layTalks", "(I)V"⟩, 43), (⟨"TollDelayModel", "stayOf", "(II)I"⟩, 43), (⟨"TollDelayModel", "payFor", "(I)I"⟩, 43), (⟨"TollDelayModel", "isMatter", "(I)Z"⟩, 43), (⟨"TollDelayModel", "leadsFrom", "(I)I"⟩, 43)]
theorem lw_r3 : ∀ q ∈ lw_privs_3, lw_okq q := List.forall_mem_cons.mpr ⟨lw_p32, List.forall_mem_cons.mpr ⟨lw_p33, List.forall_mem_cons.mpr ⟨lw_p34, List.forall_mem_cons.mpr ⟨lw_p35, List.forall_mem_cons.mpr ⟨lw_p36, List.forall_mem_cons.mpr ⟨lw_p37, List.forall_mem_cons.mpr ⟨lw_p38, List.forall_mem_cons.mpr ⟨lw_p39, List.forall_mem_cons.mpr ⟨lw_p40, List.forall_mem_cons.mpr ⟨lw_p41, List.forall_mem_cons.mpr ⟨lw_p42, List.forall_mem_cons.mpr ⟨lw_p43, List.forall_mem_cons.mpr ⟨lw_p44, List.forall_mem_cons.mpr ⟨lw_p45, List.forall_mem_cons.mpr ⟨lw_p46, List.forall_mem_cons.mpr ⟨lw_p47, fun _ h => absurd h List.not_mem_nil⟩⟩⟩⟩⟩⟩⟩⟩⟩⟩⟩⟩⟩⟩⟩⟩
theorem lw_p48 : lw_okq (⟨"TollDelayModel", "onward", "(I)I"⟩, 43) := ⟨⟨by decide +kernel, by decide +kernel⟩, List.mem_of_getElem? (i := 769) (by decide +kernel), List.mem_of_getElem? (i := 1023) (by decide +kernel), List.mem_of_getElem? (i := 1024) (by decide +kernel)⟩
theorem lw_p49 : lw_okq (⟨"TollDelayModel", "roundOf", "(I)I"⟩, 43) := ⟨⟨by decide +kernel, by decide +kernel⟩, List.mem_of_getElem? (i := 769) (by decide +kernel), List.mem_of_getElem? (i := 1027) (by decide +kernel), List.mem_of_getElem? (i := 1028) (by decide +kernel)⟩
theorem lw_p50 : lw_okq (⟨"TollDelayModel", "isTraveller", "(I)Z"⟩, 43) := ⟨⟨by decide +kernel, by decide +kernel⟩, List.mem_of_getElem? (i := 769) (by decide +kernel), List.mem_of_getElem? (i := 1035) (by decide +kernel), List.mem_of_getElem? (i := 1036) (by decide +kernel)⟩
theorem lw_p51 : lw_okq (⟨"TollDelayModel", "limit", "(I)I"⟩, 43) := ⟨⟨by decide +kernel, by decide +kernel⟩, List.mem_of_getElem? (i := 769) (by decide +kernel), List.mem_of_getElem? (i := 1039) (by decide +kernel), List.mem_of_getElem? (i := 1040) (by decide +kernel)⟩
theorem lw_p52 : lw_okq (⟨"TollDelayModel", "favourite", "(I)I"⟩, 43) := ⟨⟨by decide +kernel, by decide +kernel⟩, List.mem_of_getElem? (i := 769) (by decide +kernel), List.mem_of_getElem? (i := 1043) (by decide +kernel), List.mem_of_getElem? (i := 1044) (by decide +kernel)⟩
theorem lw_p53 : lw_okq (⟨"TollDelayModel", "remember", "()V"⟩, 43) := ⟨⟨by decide +kernel, by decide +kernel⟩, List.mem_of_getElem? (i := 769) (by decide +kernel), List.mem_of_getElem? (i := 1052) (by decide +kernel), List.mem_of_getElem? (i := 1053) (by decide +kernel)⟩
theorem lw_p54 : lw_okq (⟨"TollDelayModel", "seats", "(I)V"⟩, 43) := ⟨⟨by decide +kernel, by decide +kernel⟩, List.mem_of_getElem? (i := 769) (by decide +kernel), List.mem_of_getElem? (i := 1056) (by decide +kernel), List.mem_of_getElem? (i := 1057) (by decide +kernel)⟩
theorem lw_p55 : lw_okq (⟨"TollDelayModel", "isTellable", "(I)Z"⟩, 43) := ⟨⟨by decide +kernel, by decide +kernel⟩, List.mem_of_getElem? (i := 769) (by decide +kernel), List.mem_of_getElem? (i := 1064) (by decide +kernel), List.mem_of_getElem? (i := 1065) (by decide +kernel)⟩
theorem lw_p56 : lw_okq (⟨"TollDelayModel", "tells", "(I)I"⟩, 43) := ⟨⟨by decide +kernel, by decide +kernel⟩, List.mem_of_getElem? (i := 769) (by decide +kernel), List.mem_of_getElem? (i := 1068) (by decide +kernel), List.mem_of_getElem? (i := 1069) (by decide +kernel)⟩
theorem lw_p57 : lw_okq (⟨"TollDelayModel", "rises", "()I"⟩, 43) := ⟨⟨by decide +kernel, by decide +kernel⟩, List.mem_of_getElem? (i := 769) (by decide +kernel), List.mem_of_getElem? (i := 1072) (by decide +kernel), List.mem_of_getElem? (i := 1073) (by decide +kernel)⟩
theorem lw_p58 : lw_okq (⟨"TollDelayModel", "passes", "(I)V"⟩, 43) := ⟨⟨by decide +kernel, by decide +kernel⟩, List.mem_of_getElem? (i := 769) (by decide +kernel), List.mem_of_getElem? (i := 1077) (by decide +kernel), List.mem_of_getElem? (i := 1078) (by decide +kernel)⟩
theorem lw_p59 : lw_okq (⟨"TollDelayModel", "isBridge", "()Z"⟩, 43) := ⟨⟨by decide +kernel, by decide +kernel⟩, List.mem_of_getElem? (i := 769) (by decide +kernel), List.mem_of_getElem? (i := 1093) (by decide +kernel), List.mem_of_getElem? (i := 1094) (by decide +kernel)⟩
theorem lw_p60 : lw_okq (⟨"TollDelayModel", "draws", "()V"⟩, 43) := ⟨⟨by decide +kernel, by decide +kernel⟩, List.mem_of_getElem? (i := 769) (by decide +kernel), List.mem_of_getElem? (i := 1106) (by decide +kernel), List.mem_of_getElem? (i := 1107) (by decide +kernel)⟩
theorem lw_p61 : lw_okq (⟨"TollDelayModel", "draw", "(I)I"⟩, 43) := ⟨⟨by decide +kernel, by decide +kernel⟩, List.mem_of_getElem? (i := 769) (by decide +kernel), List.mem_of_getElem? (i := 1110) (by decide +kernel), List.mem_of_getElem? (i := 1111) (by decide +kernel)⟩
theorem lw_p62 : lw_okq (⟨"TollDelayModel", "paidBy", "(II)I"⟩, 43) := ⟨⟨by decide +kernel, by decide +kernel⟩, List.mem_of_getElem? (i := 769) (by decide +kernel), List.mem_of_getElem? (i := 1134) (by decide +kernel), List.mem_of_getElem? (i := 1135) (by decide +kernel)⟩
theorem lw_p63 : lw_okq (⟨"TollDelayModel", "alike", "(II)I"⟩, 43) := ⟨⟨by decide +kernel, by decide +kernel⟩, List.mem_of_getElem? (i := 769) (by decide +kernel), List.mem_of_getElem? (i := 1160) (by decide +kernel), List.mem_of_getElem? (i := 1161) (by decide +kernel)⟩
def lw_privs_4 : List (MethodName × Nat) := [(⟨"TollDelayModel", "onward", "(I)I"⟩, 43), (⟨"TollDelayModel", "roundOf", "(I)I"⟩, 43), (⟨"TollDelayModel", "isTraveller", "(I)Z"⟩, 43), (⟨"TollDelayModel", "limit", "(I)I"⟩, 43), (⟨"TollDelayModel", "favourite", "(I)I"⟩, 43), (⟨"TollDelayModel", "remember", "()V"⟩, 43), (⟨"TollDelayModel", "seats", "(I)V"⟩, 43), (⟨"TollDelayModel", "isTellable", "(I)Z"⟩, 43), (⟨"TollDelayModel", "tells", "(I)I"⟩, 43), (⟨"TollDelayModel", "rises", "()I"⟩, 43), (⟨"TollDelayModel", "passes", "(I)V"⟩, 43), (⟨"TollDelayModel", "isBridge", "()Z"⟩, 43), (⟨"TollDelayModel", "draws", "()V"⟩, 43), (⟨"TollDelayModel", "draw", "(I)I"⟩, 43), (⟨"TollDelayModel", "paidBy", "(II)I"⟩, 43), (⟨"TollDelayModel", "alike", "(II)I"⟩, 43)]
theorem lw_r4 : ∀ q ∈ lw_privs_4, lw_okq q := List.forall_mem_cons.mpr ⟨lw_p48, List.forall_mem_cons.mpr ⟨lw_p49, List.forall_mem_cons.mpr ⟨lw_p50, List.forall_mem_cons.mpr ⟨lw_p51, List.forall_mem_cons.mpr ⟨lw_p52, List.forall_mem_cons.mpr ⟨lw_p53, List.forall_mem_cons.mpr ⟨lw_p54, List.forall_mem_cons.mpr ⟨lw_p55, List.forall_mem_cons.mpr ⟨lw_p56, List.forall_mem_cons.mpr ⟨lw_p57, List.forall_mem_cons.mpr ⟨lw_p58, List.forall_mem_cons.mpr ⟨lw_p59, List.forall_mem_cons.mpr ⟨lw_p60, List.forall_mem_cons.mpr ⟨lw_p61, List.forall_mem_cons.mpr ⟨lw_p62, List.forall_mem_cons.mpr ⟨lw_p63, fun _ h => absurd h List.not_mem_nil⟩⟩⟩⟩⟩⟩⟩⟩⟩⟩⟩⟩⟩⟩⟩⟩
def lw_privs : List (MethodName × Nat) := lw_privs_1 ++ (lw_privs_2 ++ (lw_privs_3 ++ (lw_privs_4)))
def lw_tbl : List Cond := k2_sels lw_privs ++ tables_1
theorem lw_privs_ok : ∀ q ∈ lw_privs, lw_okq q := by
  show ∀ q ∈ lw_privs_1 ++ (lw_privs_2 ++ (lw_privs_3 ++ (lw_privs_4))), lw_okq q
  exact List.forall_mem_append.mpr ⟨lw_r1, List.forall_mem_append.mpr ⟨lw_r2, List.forall_mem_append.mpr ⟨lw_r3, lw_r4⟩⟩⟩
end
section
def RX0 : String := "TollDelay$Asking"
def TX0 : u_T := fun k => match k with
  | _ => ("", "", "", false)
def tyX0 : Nat → FieldType := fun k => match k with
  | _ => .int
theorem nmX0 : ∀ a, a < 0 → ∀ b, b < 0 → a ≠ b → (TX0 a).2.1 ≠ (TX0 b).2.1 := by decide +kernel
theorem tyX0_ok : ∀ k, k < 0 → parseFieldDescriptor (TX0 k).2.2.1 = some (tyX0 k) := by decide +kernel
abbrev cX0_bestOf : ByteArray := prog_2_method_2_code
def yX0_bestOf : MethodName := ⟨RX0, "bestOf", "(LTollDelay$Bridge;I)I"⟩
abbrev cX0_greatestPart : ByteArray := prog_2_method_3_code
def yX0_greatestPart : MethodName := ⟨RX0, "greatestPart", "(LTollDelay$Bridge;II)I"⟩
abbrev cX0_alike : ByteArray := prog_2_method_4_code
def yX0_alike : MethodName := ⟨RX0, "alike", "(LTollDelay$Bridge;III)I"⟩
def RX1 : String := "TollDelay$Bridge"
def TX1 : u_T := fun k => match k with
  | 0 => ("TollDelay$Bridge", "quarter", "I", false)
  | 1 => ("TollDelay$Bridge", "rate", "I", false)
  | 2 => ("TollDelay$Bridge", "matters", "I", false)
  | 3 => ("TollDelay$Bridge", "travellers", "I", false)
  | 4 => ("TollDelay$Bridge", "lasts", "[I", true)
  | 5 => ("TollDelay$Bridge", "leadsTo", "[I", true)
  | 6 => ("TollDelay$Bridge", "kind", "[I", true)
  | 7 => ("TollDelay$Bridge", "hurry", "[I", true)
  | 8 => ("TollDelay$Bridge", "cannot", "[I", true)
  | _ => ("TollDelay$Bridge", "beginners", "[I", true)
def tyX1 : Nat → FieldType := fun k => match k with
  | 0 => .int
  | 1 => .int
  | 2 => .int
  | 3 => .int
  | 4 => .array .int
  | 5 => .array .int
  | 6 => .array .int
  | 7 => .array .int
  | 8 => .array .int
  | _ => .array .int
theorem nmX1 : ∀ a, a < 10 → ∀ b, b < 10 → a ≠ b → (TX1 a).2.1 ≠ (TX1 b).2.1 := by decide +kernel
theorem tyX1_ok : ∀ k, k < 10 → parseFieldDescriptor (TX1 k).2.2.1 = some (tyX1 k) := by decide +kernel
abbrev cX1_init : ByteArray := prog_3_method_1_code
def yX1_init : MethodName := ⟨RX1, "<init>", "()V"⟩
abbrev cX1_clear : ByteArray := prog_3_method_2_code
def yX1_clear : MethodName := ⟨RX1, "clear", "()V"⟩
abbrev cX1_isThere : ByteArray := prog_3_method_3_code
def yX1_isThere : MethodName := ⟨RX1, "isThere", "()Z"⟩
abbrev cX1_hasMatter : ByteArray := prog_3_method_4_code
def yX1_hasMatter : MethodName := ⟨RX1, "hasMatter", "(I)Z"⟩
abbrev cX1_hasTraveller : ByteArray := prog_3_method_5_code
def yX1_hasTraveller : MethodName := ⟨RX1, "hasTraveller", "(I)Z"⟩
abbrev cX1_addMatter : ByteArray := prog_3_method_6_code
def yX1_addMatter : MethodName := ⟨RX1, "addMatter", "(II)V"⟩
abbrev cX1_addTraveller : ByteArray := prog_3_method_7_code
def yX1_addTraveller : MethodName := ⟨RX1, "addTraveller", "(III)V"⟩
abbrev cX1_settle : ByteArray := prog_3_method_8_code
def yX1_settle : MethodName := ⟨RX1, "settle", "()V"⟩
abbrev cX1_beginnersOf : ByteArray := prog_3_method_9_code
def yX1_beginnersOf : MethodName := ⟨RX1, "beginnersOf", "(I)I"⟩
abbrev cX1_stayOf : ByteArray := prog_3_method_10_code
def yX1_stayOf : MethodName := ⟨RX1, "stayOf", "(II)I"⟩
abbrev cX1_isProfessor : ByteArray := prog_3_method_11_code
def yX1_isProfessor : MethodName := ⟨RX1, "isProfessor", "(I)Z"⟩
abbrev cX1_mostWaiting : ByteArray := prog_3_method_12_code
def yX1_mostWaiting : MethodName := ⟨RX1, "mostWaiting", "(I)I"⟩
abbrev cX1_payFor : ByteArray := prog_3_method_13_code
def yX1_payFor : MethodName := ⟨RX1, "payFor", "(I)I"⟩
abbrev cX1_oneStepFrom : ByteArray := prog_3_method_14_code
def yX1_oneStepFrom : MethodName := ⟨RX1, "oneStepFrom", "(I)I"⟩
abbrev cX1_leadsFrom : ByteArray := prog_3_method_15_code
def yX1_leadsFrom : MethodName := ⟨RX1, "leadsFrom", "(I)I"⟩
abbrev cX1_stepsRound : ByteArray := prog_3_method_16_code
def yX1_stepsRound : MethodName := ⟨RX1, "stepsRound", "(I)I"⟩
abbrev cX1_nobodys : ByteArray := prog_3_method_17_code
def yX1_nobodys : MethodName := ⟨RX1, "nobodys", "()I"⟩
abbrev cX1_favouriteOf : ByteArray := prog_3_method_18_code
def yX1_favouriteOf : MethodName := ⟨RX1, "favouriteOf", "(I)I"⟩
def RX2 : String := "TollDelay$Entries"
def TX2 : u_T := fun k => match k with
  | 0 => ("TollDelay$Entries", "who", "[I", true)
  | 1 => ("TollDelay$Entries", "minutes", "[I", true)
  | _ => ("TollDelay$Entries", "count", "I", false)
def tyX2 : Nat → FieldType := fun k => match k with
  | 0 => .array .int
  | 1 => .array .int
  | _ => .int
theorem nmX2 : ∀ a, a < 3 → ∀ b, b < 3 → a ≠ b → (TX2 a).2.1 ≠ (TX2 b).2.1 := by decide +kernel
theorem tyX2_ok : ∀ k, k < 3 → parseFieldDescriptor (TX2 k).2.2.1 = some (tyX2 k) := by decide +kernel
abbrev cX2_init : ByteArray := prog_4_method_1_code
def yX2_init : MethodName := ⟨RX2, "<init>", "(I)V"⟩
abbrev cX2_add : ByteArray := prog_4_method_2_code
def yX2_add : MethodName := ⟨RX2, "add", "(II)Z"⟩
abbrev cX2_forget : ByteArray := prog_4_method_3_code
def yX2_forget : MethodName := ⟨RX2, "forget", "()V"⟩
abbrev cX2_firstWrong : ByteArray := prog_4_method_4_code
def yX2_firstWrong : MethodName := ⟨RX2, "firstWrong", "([I)I"⟩
abbrev cX2_fitting : ByteArray := prog_4_method_5_code
def yX2_fitting : MethodName := ⟨RX2, "fitting", "(LTollDelay$Bridge;)I"⟩
abbrev cX2_fits : ByteArray := prog_4_method_6_code
def yX2_fits : MethodName := ⟨RX2, "fits", "(LTollDelay$Bridge;I)Z"⟩
def RX3 : String := "TollDelay$Evening"
def TX3 : u_T := fun k => match k with
  | 0 => ("TollDelay$Evening", "clock", "I", false)
  | 1 => ("TollDelay$Evening", "evenings", "I", false)
  | 2 => ("TollDelay$Evening", "paid", "I", false)
  | 3 => ("TollDelay$Evening", "known", "I", false)
  | 4 => ("TollDelay$Evening", "sits", "I", false)
  | 5 => ("TollDelay$Evening", "toldHim", "I", false)
  | 6 => ("TollDelay$Evening", "toldLast", "I", false)
  | 7 => ("TollDelay$Evening", "waits", "I", false)
  | 8 => ("TollDelay$Evening", "passed", "I", false)
  | 9 => ("TollDelay$Evening", "turned", "I", false)
  | 10 => ("TollDelay$Evening", "waited", "[I", true)
  | _ => ("TollDelay$Evening", "sat", "[I", true)
def tyX3 : Nat → FieldType := fun k => match k with
  | 0 => .int
  | 1 => .int
  | 2 => .int
  | 3 => .int
  | 4 => .int
  | 5 => .int
  | 6 => .int
  | 7 => .int
  | 8 => .int
  | 9 => .int
  | 10 => .array .int
  | _ => .array .int
theorem nmX3 : ∀ a, a < 12 → ∀ b, b < 12 → a ≠ b → (TX3 a).2.1 ≠ (TX3 b).2.1 := by decide +kernel
theorem tyX3_ok : ∀ k, k < 12 → parseFieldDescriptor (TX3 k).2.2.1 = some (tyX3 k) := by decide +kernel
abbrev cX3_init : ByteArray := prog_5_method_1_code
def yX3_init : MethodName := ⟨RX3, "<init>", "()V"⟩
abbrev cX3_begin : ByteArray := prog_5_method_2_code
def yX3_begin : MethodName := ⟨RX3, "begin", "(LTollDelay$Bridge;)V"⟩
abbrev cX3_gather : ByteArray := prog_5_method_3_code
def yX3_gather : MethodName := ⟨RX3, "gather", "(LTollDelay$Bridge;)V"⟩
abbrev cX3_emptySeat : ByteArray := prog_5_method_4_code
def yX3_emptySeat : MethodName := ⟨RX3, "emptySeat", "()V"⟩
abbrev cX3_copyFrom : ByteArray := prog_5_method_5_code
def yX3_copyFrom : MethodName := ⟨RX3, "copyFrom", "(LTollDelay$Evening;)V"⟩
abbrev cX3_takeSeat : ByteArray := prog_5_method_6_code
def yX3_takeSeat : MethodName := ⟨RX3, "takeSeat", "(I)V"⟩
abbrev cX3_canHear : ByteArray := prog_5_method_7_code
def yX3_canHear : MethodName := ⟨RX3, "canHear", "(I)Z"⟩
abbrev cX3_hear : ByteArray := prog_5_method_8_code
def yX3_hear : MethodName := ⟨RX3, "hear", "(LTollDelay$Bridge;I)I"⟩
abbrev cX3_follows : ByteArray := prog_5_method_9_code
def yX3_follows : MethodName := ⟨RX3, "follows", "(LTollDelay$Bridge;I)Z"⟩
abbrev cX3_leaveSeat : ByteArray := prog_5_method_10_code
def yX3_leaveSeat : MethodName := ⟨RX3, "leaveSeat", "(LTollDelay$Bridge;)I"⟩
abbrev cX3_takeUp : ByteArray := prog_5_method_11_code
def yX3_takeUp : MethodName := ⟨RX3, "takeUp", "(I)V"⟩
abbrev cX3_passMinutes : ByteArray := prog_5_method_12_code
def yX3_passMinutes : MethodName := ⟨RX3, "passMinutes", "(LTollDelay$Bridge;I)V"⟩
abbrev cX3_patienceOf : ByteArray := prog_5_method_13_code
def yX3_patienceOf : MethodName := ⟨RX3, "patienceOf", "(LTollDelay$Bridge;I)I"⟩
abbrev cX3_longestSat : ByteArray := prog_5_method_14_code
def yX3_longestSat : MethodName := ⟨RX3, "longestSat", "(LTollDelay$Bridge;)I"⟩
def RX4 : String := "TollDelay$Image"
def TX4 : u_T := fun k => match k with
  | 0 => ("TollDelay$Image", "evening", "LTollDelay$Evening;", true)
  | 1 => ("TollDelay$Image", "drawn", "I", false)
  | _ => ("TollDelay$Image", "kept", "Z", false)
def tyX4 : Nat → FieldType := fun k => match k with
  | 0 => .object "TollDelay$Evening"
  | 1 => .int
  | _ => .boolean
theorem nmX4 : ∀ a, a < 3 → ∀ b, b < 3 → a ≠ b → (TX4 a).2.1 ≠ (TX4 b).2.1 := by decide +kernel
theorem tyX4_ok : ∀ k, k < 3 → parseFieldDescriptor (TX4 k).2.2.1 = some (tyX4 k) := by decide +kernel
abbrev cX4_init : ByteArray := prog_6_method_1_code
def yX4_init : MethodName := ⟨RX4, "<init>", "()V"⟩
def RX5 : String := "TollDelay$Line"
def TX5 : u_T := fun k => match k with
  | 0 => ("TollDelay$Line", "order", "[I", true)
  | 1 => ("TollDelay$Line", "minutes", "[I", true)
  | 2 => ("TollDelay$Line", "pay", "[I", true)
  | 3 => ("TollDelay$Line", "patience", "[I", true)
  | 4 => ("TollDelay$Line", "size", "I", false)
  | 5 => ("TollDelay$Line", "bestPay", "I", false)
  | _ => ("TollDelay$Line", "bestFigures", "I", false)
def tyX5 : Nat → FieldType := fun k => match k with
  | 0 => .array .int
  | 1 => .array .int
  | 2 => .array .int
  | 3 => .array .int
  | 4 => .int
  | 5 => .int
  | _ => .int
theorem nmX5 : ∀ a, a < 7 → ∀ b, b < 7 → a ≠ b → (TX5 a).2.1 ≠ (TX5 b).2.1 := by decide +kernel
theorem tyX5_ok : ∀ k, k < 7 → parseFieldDescriptor (TX5 k).2.2.1 = some (tyX5 k) := by decide +kernel
abbrev cX5_init : ByteArray := prog_7_method_1_code
def yX5_init : MethodName := ⟨RX5, "<init>", "()V"⟩
abbrev cX5_fill : ByteArray := prog_7_method_2_code
def yX5_fill : MethodName := ⟨RX5, "fill", "(LTollDelay$Bridge;LTollDelay$Evening;LTollDelay$Talk;)V"⟩
abbrev cX5_tryOrders : ByteArray := prog_7_method_3_code
def yX5_tryOrders : MethodName := ⟨RX5, "tryOrders", "()V"⟩
abbrev cX5_payOfOrder : ByteArray := prog_7_method_4_code
def yX5_payOfOrder : MethodName := ⟨RX5, "payOfOrder", "()I"⟩
abbrev cX5_figuresOfOrder : ByteArray := prog_7_method_5_code
def yX5_figuresOfOrder : MethodName := ⟨RX5, "figuresOfOrder", "()I"⟩
abbrev cX5_nextOrder : ByteArray := prog_7_method_6_code
def yX5_nextOrder : MethodName := ⟨RX5, "nextOrder", "()Z"⟩
abbrev cX5_swap : ByteArray := prog_7_method_7_code
def yX5_swap : MethodName := ⟨RX5, "swap", "(II)V"⟩
def RX6 : String := "TollDelay$Past"
def TX6 : u_T := fun k => match k with
  | 0 => ("TollDelay$Past", "ring", "[LTollDelay$Evening;", true)
  | 1 => ("TollDelay$Past", "count", "I", false)
  | _ => ("TollDelay$Past", "next", "I", false)
def tyX6 : Nat → FieldType := fun k => match k with
  | 0 => .array (.object "TollDelay$Evening")
  | 1 => .int
  | _ => .int
theorem nmX6 : ∀ a, a < 3 → ∀ b, b < 3 → a ≠ b → (TX6 a).2.1 ≠ (TX6 b).2.1 := by decide +kernel
theorem tyX6_ok : ∀ k, k < 3 → parseFieldDescriptor (TX6 k).2.2.1 = some (tyX6 k) := by decide +kernel
abbrev cX6_init : ByteArray := prog_8_method_1_code
def yX6_init : MethodName := ⟨RX6, "<init>", "()V"⟩
abbrev cX6_remember : ByteArray := prog_8_method_2_code
def yX6_remember : MethodName := ⟨RX6, "remember", "(LTollDelay$Evening;)V"⟩
abbrev cX6_takeBack : ByteArray := prog_8_method_3_code
def yX6_takeBack : MethodName := ⟨RX6, "takeBack", "(ILTollDelay$Evening;)V"⟩
abbrev cX6_forget : ByteArray := prog_8_method_4_code
def yX6_forget : MethodName := ⟨RX6, "forget", "()V"⟩
def RX7 : String := "TollDelay$Reader"
def TX7 : u_T := fun k => match k with
  | 0 => ("TollDelay$Reader", "letters", "[I", true)
  | 1 => ("TollDelay$Reader", "length", "I", false)
  | 2 => ("TollDelay$Reader", "at", "I", false)
  | 3 => ("TollDelay$Reader", "faultKind", "I", false)
  | _ => ("TollDelay$Reader", "faultAt", "I", false)
def tyX7 : Nat → FieldType := fun k => match k with
  | 0 => .array .int
  | 1 => .int
  | 2 => .int
  | 3 => .int
  | _ => .int
theorem nmX7 : ∀ a, a < 5 → ∀ b, b < 5 → a ≠ b → (TX7 a).2.1 ≠ (TX7 b).2.1 := by decide +kernel
theorem tyX7_ok : ∀ k, k < 5 → parseFieldDescriptor (TX7 k).2.2.1 = some (tyX7 k) := by decide +kernel
abbrev cX7_init : ByteArray := prog_9_method_1_code
def yX7_init : MethodName := ⟨RX7, "<init>", "()V"⟩
abbrev cX7_add : ByteArray := prog_9_method_2_code
def yX7_add : MethodName := ⟨RX7, "add", "(I)Z"⟩
abbrev cX7_empty : ByteArray := prog_9_method_3_code
def yX7_empty : MethodName := ⟨RX7, "empty", "()V"⟩
abbrev cX7_readInto : ByteArray := prog_9_method_4_code
def yX7_readInto : MethodName := ⟨RX7, "readInto", "(LTollDelay$Bridge;)V"⟩
abbrev cX7_nextLetter : ByteArray := prog_9_method_5_code
def yX7_nextLetter : MethodName := ⟨RX7, "nextLetter", "()I"⟩
abbrev cX7_skipBlanks : ByteArray := prog_9_method_6_code
def yX7_skipBlanks : MethodName := ⟨RX7, "skipBlanks", "()V"⟩
abbrev cX7_note : ByteArray := prog_9_method_7_code
def yX7_note : MethodName := ⟨RX7, "note", "(II)V"⟩
abbrev cX7_readClause : ByteArray := prog_9_method_8_code
def yX7_readClause : MethodName := ⟨RX7, "readClause", "(LTollDelay$Bridge;)V"⟩
abbrev cX7_faultOfWord : ByteArray := prog_9_method_9_code
def yX7_faultOfWord : MethodName := ⟨RX7, "faultOfWord", "(LTollDelay$Bridge;I)I"⟩
abbrev cX7_readRate : ByteArray := prog_9_method_10_code
def yX7_readRate : MethodName := ⟨RX7, "readRate", "(LTollDelay$Bridge;)V"⟩
abbrev cX7_readMatter : ByteArray := prog_9_method_11_code
def yX7_readMatter : MethodName := ⟨RX7, "readMatter", "(LTollDelay$Bridge;)V"⟩
abbrev cX7_readTraveller : ByteArray := prog_9_method_12_code
def yX7_readTraveller : MethodName := ⟨RX7, "readTraveller", "(LTollDelay$Bridge;)V"⟩
abbrev cX7_readNumber : ByteArray := prog_9_method_13_code
def yX7_readNumber : MethodName := ⟨RX7, "readNumber", "(II)I"⟩
abbrev cX7_isFigure : ByteArray := prog_9_method_14_code
def yX7_isFigure : MethodName := ⟨RX7, "isFigure", "(I)Z"⟩
abbrev cX7_readEnd : ByteArray := prog_9_method_15_code
def yX7_readEnd : MethodName := ⟨RX7, "readEnd", "()Z"⟩
def RX8 : String := "TollDelay$Talk"
def TX8 : u_T := fun k => match k with
  | 0 => ("TollDelay$Talk", "sums", "[I", true)
  | 1 => ("TollDelay$Talk", "minutes", "I", false)
  | 2 => ("TollDelay$Talk", "first", "I", false)
  | _ => ("TollDelay$Talk", "count", "I", false)
def tyX8 : Nat → FieldType := fun k => match k with
  | 0 => .array .int
  | 1 => .int
  | 2 => .int
  | _ => .int
theorem nmX8 : ∀ a, a < 4 → ∀ b, b < 4 → a ≠ b → (TX8 a).2.1 ≠ (TX8 b).2.1 := by decide +kernel
theorem tyX8_ok : ∀ k, k < 4 → parseFieldDescriptor (TX8 k).2.2.1 = some (tyX8 k) := by decide +kernel
abbrev cX8_init : ByteArray := prog_10_method_1_code
def yX8_init : MethodName := ⟨RX8, "<init>", "()V"⟩
abbrev cX8_tryWith : ByteArray := prog_10_method_2_code
def yX8_tryWith : MethodName := ⟨RX8, "tryWith", "(LTollDelay$Bridge;II)V"⟩
abbrev cX8_weigh : ByteArray := prog_10_method_3_code
def yX8_weigh : MethodName := ⟨RX8, "weigh", "(II)V"⟩
abbrev cX8_worthOfAll : ByteArray := prog_10_method_4_code
def yX8_worthOfAll : MethodName := ⟨RX8, "worthOfAll", "(LTollDelay$Bridge;I)I"⟩
abbrev cX8_bestToLearn : ByteArray := prog_10_method_5_code
def yX8_bestToLearn : MethodName := ⟨RX8, "bestToLearn", "(LTollDelay$Bridge;I)I"⟩
def RX9 : String := "TollDelay"
def TX9 : u_T := fun k => match k with
  | 0 => ("TollDelay", "reader", "LTollDelay$Reader;", true)
  | 1 => ("TollDelay", "evening", "LTollDelay$Evening;", true)
  | 2 => ("TollDelay", "past", "LTollDelay$Past;", true)
  | 3 => ("TollDelay", "images", "[LTollDelay$Image;", true)
  | 4 => ("TollDelay", "trial", "LTollDelay$Talk;", true)
  | 5 => ("TollDelay", "line", "LTollDelay$Line;", true)
  | 6 => ("TollDelay", "clues", "LTollDelay$Entries;", true)
  | 7 => ("TollDelay", "book", "LTollDelay$Entries;", true)
  | 8 => ("TollDelay", "stands", "LTollDelay$Bridge;", false)
  | 9 => ("TollDelay", "draft", "LTollDelay$Bridge;", false)
  | 10 => ("TollDelay", "drawn", "I", false)
  | _ => ("TollDelay", "faultAt", "I", false)
def tyX9 : Nat → FieldType := fun k => match k with
  | 0 => .object "TollDelay$Reader"
  | 1 => .object "TollDelay$Evening"
  | 2 => .object "TollDelay$Past"
  | 3 => .array (.object "TollDelay$Image")
  | 4 => .object "TollDelay$Talk"
  | 5 => .object "TollDelay$Line"
  | 6 => .object "TollDelay$Entries"
  | 7 => .object "TollDelay$Entries"
  | 8 => .object "TollDelay$Bridge"
  | 9 => .object "TollDelay$Bridge"
  | 10 => .int
  | _ => .int
theorem nmX9 : ∀ a, a < 12 → ∀ b, b < 12 → a ≠ b → (TX9 a).2.1 ≠ (TX9 b).2.1 := by decide +kernel
theorem tyX9_ok : ∀ k, k < 12 → parseFieldDescriptor (TX9 k).2.2.1 = some (tyX9 k) := by decide +kernel
abbrev cX9_init : ByteArray := prog_1_method_1_code
def yX9_init : MethodName := ⟨RX9, "<init>", "()V"⟩
abbrev cX9_feed : ByteArray := prog_1_method_2_code
def yX9_feed : MethodName := ⟨RX9, "feed", "(I)I"⟩
abbrev cX9_bridge : ByteArray := prog_1_method_3_code
def yX9_bridge : MethodName := ⟨RX9, "bridge", "()I"⟩
abbrev cX9_beginBridge : ByteArray := prog_1_method_4_code
def yX9_beginBridge : MethodName := ⟨RX9, "beginBridge", "()V"⟩
abbrev cX9_fault : ByteArray := prog_1_method_5_code
def yX9_fault : MethodName := ⟨RX9, "fault", "()I"⟩
abbrev cX9_told : ByteArray := prog_1_method_6_code
def yX9_told : MethodName := ⟨RX9, "told", "(I)I"⟩
abbrev cX9_toldOfEvening : ByteArray := prog_1_method_7_code
def yX9_toldOfEvening : MethodName := ⟨RX9, "toldOfEvening", "(I)I"⟩
abbrev cX9_matter : ByteArray := prog_1_method_8_code
def yX9_matter : MethodName := ⟨RX9, "matter", "(II)I"⟩
abbrev cX9_traveller : ByteArray := prog_1_method_9_code
def yX9_traveller : MethodName := ⟨RX9, "traveller", "(II)I"⟩
abbrev cX9_seat : ByteArray := prog_1_method_10_code
def yX9_seat : MethodName := ⟨RX9, "seat", "(I)I"⟩
abbrev cX9_tell : ByteArray := prog_1_method_11_code
def yX9_tell : MethodName := ⟨RX9, "tell", "(I)I"⟩
abbrev cX9_rise : ByteArray := prog_1_method_12_code
def yX9_rise : MethodName := ⟨RX9, "rise", "()I"⟩
abbrev cX9_learn : ByteArray := prog_1_method_13_code
def yX9_learn : MethodName := ⟨RX9, "learn", "(I)I"⟩
abbrev cX9_minute : ByteArray := prog_1_method_14_code
def yX9_minute : MethodName := ⟨RX9, "minute", "(I)I"⟩
abbrev cX9_anew : ByteArray := prog_1_method_15_code
def yX9_anew : MethodName := ⟨RX9, "anew", "()I"⟩
abbrev cX9_drift : ByteArray := prog_1_method_16_code
def yX9_drift : MethodName := ⟨RX9, "drift", "(I)I"⟩
abbrev cX9_driftOnce : ByteArray := prog_1_method_17_code
def yX9_driftOnce : MethodName := ⟨RX9, "driftOnce", "()V"⟩
abbrev cX9_drawSeat : ByteArray := prog_1_method_18_code
def yX9_drawSeat : MethodName := ⟨RX9, "drawSeat", "()V"⟩
abbrev cX9_drawTelling : ByteArray := prog_1_method_19_code
def yX9_drawTelling : MethodName := ⟨RX9, "drawTelling", "()V"⟩
abbrev cX9_drawOf : ByteArray := prog_1_method_20_code
def yX9_drawOf : MethodName := ⟨RX9, "drawOf", "(I)I"⟩
abbrev cX9_undo : ByteArray := prog_1_method_21_code
def yX9_undo : MethodName := ⟨RX9, "undo", "(I)I"⟩
abbrev cX9_stay : ByteArray := prog_1_method_22_code
def yX9_stay : MethodName := ⟨RX9, "stay", "(II)I"⟩
abbrev cX9_talk : ByteArray := prog_1_method_23_code
def yX9_talk : MethodName := ⟨RX9, "talk", "(II)I"⟩
abbrev cX9_queue : ByteArray := prog_1_method_24_code
def yX9_queue : MethodName := ⟨RX9, "queue", "(I)I"⟩
abbrev cX9_dry : ByteArray := prog_1_method_25_code
def yX9_dry : MethodName := ⟨RX9, "dry", "(II)I"⟩
abbrev cX9_stayed : ByteArray := prog_1_method_26_code
def yX9_stayed : MethodName := ⟨RX9, "stayed", "(II)I"⟩
abbrev cX9_couldBe : ByteArray := prog_1_method_27_code
def yX9_couldBe : MethodName := ⟨RX9, "couldBe", "()I"⟩
abbrev cX9_ask : ByteArray := prog_1_method_28_code
def yX9_ask : MethodName := ⟨RX9, "ask", "()I"⟩
abbrev cX9_write : ByteArray := prog_1_method_29_code
def yX9_write : MethodName := ⟨RX9, "write", "(II)I"⟩
abbrev cX9_judge : ByteArray := prog_1_method_30_code
def yX9_judge : MethodName := ⟨RX9, "judge", "()I"⟩
abbrev cX9_tear : ByteArray := prog_1_method_31_code
def yX9_tear : MethodName := ⟨RX9, "tear", "()I"⟩
abbrev cX9_seed : ByteArray := prog_1_method_32_code
def yX9_seed : MethodName := ⟨RX9, "seed", "(I)I"⟩
abbrev cX9_keep : ByteArray := prog_1_method_33_code
def yX9_keep : MethodName := ⟨RX9, "keep", "(I)I"⟩
abbrev cX9_goBack : ByteArray := prog_1_method_34_code
def yX9_goBack : MethodName := ⟨RX9, "goBack", "(I)I"⟩
abbrev cX9_holds : ByteArray := prog_1_method_35_code
def yX9_holds : MethodName := ⟨RX9, "holds", "(II)Z"⟩
abbrev cX9_setOfFirst : ByteArray := prog_1_method_36_code
def yX9_setOfFirst : MethodName := ⟨RX9, "setOfFirst", "(I)I"⟩
abbrev cX9_leastOf : ByteArray := prog_1_method_37_code
def yX9_leastOf : MethodName := ⟨RX9, "leastOf", "(I)I"⟩
def RX10 : String := "TollDelayModel"
def TX10 : u_T := fun k => match k with
  | 0 => ("TollDelayModel", "letterMany", "I", false)
  | 1 => ("TollDelayModel", "text", "[I", true)
  | 2 => ("TollDelayModel", "readAt", "I", false)
  | 3 => ("TollDelayModel", "numberAt", "I", false)
  | 4 => ("TollDelayModel", "readFault", "I", false)
  | 5 => ("TollDelayModel", "faultAt", "I", false)
  | 6 => ("TollDelayModel", "readQuarter", "I", false)
  | 7 => ("TollDelayModel", "readPence", "I", false)
  | 8 => ("TollDelayModel", "readMatters", "I", false)
  | 9 => ("TollDelayModel", "readTravellers", "I", false)
  | 10 => ("TollDelayModel", "readLong", "[I", true)
  | 11 => ("TollDelayModel", "readLeads", "[I", true)
  | 12 => ("TollDelayModel", "readKind", "[I", true)
  | 13 => ("TollDelayModel", "readHurry", "[I", true)
  | 14 => ("TollDelayModel", "readCannot", "[I", true)
  | 15 => ("TollDelayModel", "quarter", "I", false)
  | 16 => ("TollDelayModel", "pence", "I", false)
  | 17 => ("TollDelayModel", "m", "I", false)
  | 18 => ("TollDelayModel", "n", "I", false)
  | 19 => ("TollDelayModel", "longs", "[I", true)
  | 20 => ("TollDelayModel", "leads", "[I", true)
  | 21 => ("TollDelayModel", "kinds", "[I", true)
  | 22 => ("TollDelayModel", "hurries", "[I", true)
  | 23 => ("TollDelayModel", "cannots", "[I", true)
  | 24 => ("TollDelayModel", "now", "[I", true)
  | 25 => ("TollDelayModel", "undoMany", "I", false)
  | 26 => ("TollDelayModel", "undoAt", "I", false)
  | 27 => ("TollDelayModel", "undos", "[I", true)
  | 28 => ("TollDelayModel", "seeded", "J", false)
  | 29 => ("TollDelayModel", "begun", "[I", true)
  | 30 => ("TollDelayModel", "talkLong", "I", false)
  | 31 => ("TollDelayModel", "talkFirst", "I", false)
  | 32 => ("TollDelayModel", "talkMany", "I", false)
  | 33 => ("TollDelayModel", "lasts", "[I", true)
  | 34 => ("TollDelayModel", "stayedMany", "I", false)
  | 35 => ("TollDelayModel", "stayedOne", "[I", true)
  | 36 => ("TollDelayModel", "stayedLong", "[I", true)
  | 37 => ("TollDelayModel", "bookMany", "I", false)
  | 38 => ("TollDelayModel", "bookOne", "[I", true)
  | 39 => ("TollDelayModel", "bookSat", "[I", true)
  | 40 => ("TollDelayModel", "isKept", "[Z", true)
  | 41 => ("TollDelayModel", "kept", "[I", true)
  | _ => ("TollDelayModel", "keptSeed", "[J", true)
def tyX10 : Nat → FieldType := fun k => match k with
  | 0 => .int
  | 1 => .array .int
  | 2 => .int
  | 3 => .int
  | 4 => .int
  | 5 => .int
  | 6 => .int
  | 7 => .int
  | 8 => .int
  | 9 => .int
  | 10 => .array .int
  | 11 => .array .int
  | 12 => .array .int
  | 13 => .array .int
  | 14 => .array .int
  | 15 => .int
  | 16 => .int
  | 17 => .int
  | 18 => .int
  | 19 => .array .int
  | 20 => .array .int
  | 21 => .array .int
  | 22 => .array .int
  | 23 => .array .int
  | 24 => .array .int
  | 25 => .int
  | 26 => .int
  | 27 => .array .int
  | 28 => .long
  | 29 => .array .int
  | 30 => .int
  | 31 => .int
  | 32 => .int
  | 33 => .array .int
  | 34 => .int
  | 35 => .array .int
  | 36 => .array .int
  | 37 => .int
  | 38 => .array .int
  | 39 => .array .int
  | 40 => .array .boolean
  | 41 => .array .int
  | _ => .array .long
theorem nmX10 : ∀ a, a < 43 → ∀ b, b < 43 → a ≠ b → (TX10 a).2.1 ≠ (TX10 b).2.1 := by decide +kernel
theorem tyX10_ok : ∀ k, k < 43 → parseFieldDescriptor (TX10 k).2.2.1 = some (tyX10 k) := by decide +kernel
abbrev cX10_init : ByteArray := prog_12_method_1_code
def yX10_init : MethodName := ⟨RX10, "<init>", "()V"⟩
abbrev cX10_in : ByteArray := prog_12_method_2_code
def yX10_in : MethodName := ⟨RX10, "in", "(III)Z"⟩
abbrev cX10_has : ByteArray := prog_12_method_3_code
def yX10_has : MethodName := ⟨RX10, "has", "(II)Z"⟩
abbrev cX10_bits : ByteArray := prog_12_method_4_code
def yX10_bits : MethodName := ⟨RX10, "bits", "(I)I"⟩
abbrev cX10_feed : ByteArray := prog_12_method_5_code
def yX10_feed : MethodName := ⟨RX10, "feed", "(I)I"⟩
abbrev cX10_letterAt : ByteArray := prog_12_method_6_code
def yX10_letterAt : MethodName := ⟨RX10, "letterAt", "(I)I"⟩
abbrev cX10_nextLetter : ByteArray := prog_12_method_7_code
def yX10_nextLetter : MethodName := ⟨RX10, "nextLetter", "()I"⟩
abbrev cX10_fails : ByteArray := prog_12_method_8_code
def yX10_fails : MethodName := ⟨RX10, "fails", "(II)I"⟩
abbrev cX10_readsNumber : ByteArray := prog_12_method_9_code
def yX10_readsNumber : MethodName := ⟨RX10, "readsNumber", "(II)I"⟩
abbrev cX10_readsSign : ByteArray := prog_12_method_10_code
def yX10_readsSign : MethodName := ⟨RX10, "readsSign", "(I)Z"⟩
abbrev cX10_readsHead : ByteArray := prog_12_method_11_code
def yX10_readsHead : MethodName := ⟨RX10, "readsHead", "()Z"⟩
abbrev cX10_readsMatter : ByteArray := prog_12_method_12_code
def yX10_readsMatter : MethodName := ⟨RX10, "readsMatter", "()Z"⟩
abbrev cX10_readsTraveller : ByteArray := prog_12_method_13_code
def yX10_readsTraveller : MethodName := ⟨RX10, "readsTraveller", "()Z"⟩
abbrev cX10_readsClause : ByteArray := prog_12_method_14_code
def yX10_readsClause : MethodName := ⟨RX10, "readsClause", "()Z"⟩
abbrev cX10_readsBridge : ByteArray := prog_12_method_15_code
def yX10_readsBridge : MethodName := ⟨RX10, "readsBridge", "()Z"⟩
abbrev cX10_bridge : ByteArray := prog_12_method_16_code
def yX10_bridge : MethodName := ⟨RX10, "bridge", "()I"⟩
abbrev cX10_fault : ByteArray := prog_12_method_17_code
def yX10_fault : MethodName := ⟨RX10, "fault", "()I"⟩
abbrev cX10_isBridge : ByteArray := prog_12_method_18_code
def yX10_isBridge : MethodName := ⟨RX10, "isBridge", "()Z"⟩
abbrev cX10_isMatter : ByteArray := prog_12_method_19_code
def yX10_isMatter : MethodName := ⟨RX10, "isMatter", "(I)Z"⟩
abbrev cX10_isTraveller : ByteArray := prog_12_method_20_code
def yX10_isTraveller : MethodName := ⟨RX10, "isTraveller", "(I)Z"⟩
abbrev cX10_stayOf : ByteArray := prog_12_method_21_code
def yX10_stayOf : MethodName := ⟨RX10, "stayOf", "(II)I"⟩
abbrev cX10_limit : ByteArray := prog_12_method_22_code
def yX10_limit : MethodName := ⟨RX10, "limit", "(I)I"⟩
abbrev cX10_are : ByteArray := prog_12_method_23_code
def yX10_are : MethodName := ⟨RX10, "are", "(I)I"⟩
abbrev cX10_nobodys : ByteArray := prog_12_method_24_code
def yX10_nobodys : MethodName := ⟨RX10, "nobodys", "()I"⟩
abbrev cX10_longestSat : ByteArray := prog_12_method_25_code
def yX10_longestSat : MethodName := ⟨RX10, "longestSat", "()I"⟩
abbrev cX10_told : ByteArray := prog_12_method_26_code
def yX10_told : MethodName := ⟨RX10, "told", "(I)I"⟩
abbrev cX10_onward : ByteArray := prog_12_method_27_code
def yX10_onward : MethodName := ⟨RX10, "onward", "(I)I"⟩
abbrev cX10_leadsFrom : ByteArray := prog_12_method_28_code
def yX10_leadsFrom : MethodName := ⟨RX10, "leadsFrom", "(I)I"⟩
abbrev cX10_roundOf : ByteArray := prog_12_method_29_code
def yX10_roundOf : MethodName := ⟨RX10, "roundOf", "(I)I"⟩
abbrev cX10_matter : ByteArray := prog_12_method_30_code
def yX10_matter : MethodName := ⟨RX10, "matter", "(II)I"⟩
abbrev cX10_favourite : ByteArray := prog_12_method_31_code
def yX10_favourite : MethodName := ⟨RX10, "favourite", "(I)I"⟩
abbrev cX10_traveller : ByteArray := prog_12_method_32_code
def yX10_traveller : MethodName := ⟨RX10, "traveller", "(II)I"⟩
abbrev cX10_remember : ByteArray := prog_12_method_33_code
def yX10_remember : MethodName := ⟨RX10, "remember", "()V"⟩
abbrev cX10_passes : ByteArray := prog_12_method_34_code
def yX10_passes : MethodName := ⟨RX10, "passes", "(I)V"⟩
abbrev cX10_seats : ByteArray := prog_12_method_35_code
def yX10_seats : MethodName := ⟨RX10, "seats", "(I)V"⟩
abbrev cX10_seat : ByteArray := prog_12_method_36_code
def yX10_seat : MethodName := ⟨RX10, "seat", "(I)I"⟩
abbrev cX10_payFor : ByteArray := prog_12_method_37_code
def yX10_payFor : MethodName := ⟨RX10, "payFor", "(I)I"⟩
abbrev cX10_rises : ByteArray := prog_12_method_38_code
def yX10_rises : MethodName := ⟨RX10, "rises", "()I"⟩
abbrev cX10_tells : ByteArray := prog_12_method_39_code
def yX10_tells : MethodName := ⟨RX10, "tells", "(I)I"⟩
abbrev cX10_isTellable : ByteArray := prog_12_method_40_code
def yX10_isTellable : MethodName := ⟨RX10, "isTellable", "(I)Z"⟩
abbrev cX10_tell : ByteArray := prog_12_method_41_code
def yX10_tell : MethodName := ⟨RX10, "tell", "(I)I"⟩
abbrev cX10_rise : ByteArray := prog_12_method_42_code
def yX10_rise : MethodName := ⟨RX10, "rise", "()I"⟩
abbrev cX10_learn : ByteArray := prog_12_method_43_code
def yX10_learn : MethodName := ⟨RX10, "learn", "(I)I"⟩
abbrev cX10_minute : ByteArray := prog_12_method_44_code
def yX10_minute : MethodName := ⟨RX10, "minute", "(I)I"⟩
abbrev cX10_anew : ByteArray := prog_12_method_45_code
def yX10_anew : MethodName := ⟨RX10, "anew", "()I"⟩
abbrev cX10_draw : ByteArray := prog_12_method_46_code
def yX10_draw : MethodName := ⟨RX10, "draw", "(I)I"⟩
abbrev cX10_draws : ByteArray := prog_12_method_47_code
def yX10_draws : MethodName := ⟨RX10, "draws", "()V"⟩
abbrev cX10_drift : ByteArray := prog_12_method_48_code
def yX10_drift : MethodName := ⟨RX10, "drift", "(I)I"⟩
abbrev cX10_undo : ByteArray := prog_12_method_49_code
def yX10_undo : MethodName := ⟨RX10, "undo", "(I)I"⟩
abbrev cX10_stay : ByteArray := prog_12_method_50_code
def yX10_stay : MethodName := ⟨RX10, "stay", "(II)I"⟩
abbrev cX10_layTalks : ByteArray := prog_12_method_51_code
def yX10_layTalks : MethodName := ⟨RX10, "layTalks", "(I)V"⟩
abbrev cX10_layTalk : ByteArray := prog_12_method_52_code
def yX10_layTalk : MethodName := ⟨RX10, "layTalk", "(II)V"⟩
abbrev cX10_talk : ByteArray := prog_12_method_53_code
def yX10_talk : MethodName := ⟨RX10, "talk", "(II)I"⟩
abbrev cX10_worthOfAll : ByteArray := prog_12_method_54_code
def yX10_worthOfAll : MethodName := ⟨RX10, "worthOfAll", "(I)I"⟩
abbrev cX10_bestToLearn : ByteArray := prog_12_method_55_code
def yX10_bestToLearn : MethodName := ⟨RX10, "bestToLearn", "()I"⟩
abbrev cX10_paidBy : ByteArray := prog_12_method_56_code
def yX10_paidBy : MethodName := ⟨RX10, "paidBy", "(II)I"⟩
abbrev cX10_nextFigures : ByteArray := prog_12_method_57_code
def yX10_nextFigures : MethodName := ⟨RX10, "nextFigures", "(II)I"⟩
abbrev cX10_queue : ByteArray := prog_12_method_58_code
def yX10_queue : MethodName := ⟨RX10, "queue", "(I)I"⟩
abbrev cX10_dry : ByteArray := prog_12_method_59_code
def yX10_dry : MethodName := ⟨RX10, "dry", "(II)I"⟩
abbrev cX10_stayed : ByteArray := prog_12_method_60_code
def yX10_stayed : MethodName := ⟨RX10, "stayed", "(II)I"⟩
abbrev cX10_couldBe : ByteArray := prog_12_method_61_code
def yX10_couldBe : MethodName := ⟨RX10, "couldBe", "()I"⟩
abbrev cX10_alike : ByteArray := prog_12_method_62_code
def yX10_alike : MethodName := ⟨RX10, "alike", "(II)I"⟩
abbrev cX10_ask : ByteArray := prog_12_method_63_code
def yX10_ask : MethodName := ⟨RX10, "ask", "()I"⟩
abbrev cX10_write : ByteArray := prog_12_method_64_code
def yX10_write : MethodName := ⟨RX10, "write", "(II)I"⟩
abbrev cX10_judge : ByteArray := prog_12_method_65_code
def yX10_judge : MethodName := ⟨RX10, "judge", "()I"⟩
abbrev cX10_tear : ByteArray := prog_12_method_66_code
def yX10_tear : MethodName := ⟨RX10, "tear", "()I"⟩
abbrev cX10_seed : ByteArray := prog_12_method_67_code
def yX10_seed : MethodName := ⟨RX10, "seed", "(I)I"⟩
abbrev cX10_keep : ByteArray := prog_12_method_68_code
def yX10_keep : MethodName := ⟨RX10, "keep", "(I)I"⟩
abbrev cX10_goBack : ByteArray := prog_12_method_69_code
def yX10_goBack : MethodName := ⟨RX10, "goBack", "(I)I"⟩
def RJ6 : String := "java/lang/Integer"
def TJ6 : u_T := fun k => match k with
  | _ => ("", "", "", false)
def tyJ6 : Nat → FieldType := fun k => match k with
  | _ => .int
theorem nmJ6 : ∀ a, a < 0 → ∀ b, b < 0 → a ≠ b → (TJ6 a).2.1 ≠ (TJ6 b).2.1 := by decide +kernel
theorem tyJ6_ok : ∀ k, k < 0 → parseFieldDescriptor (TJ6 k).2.2.1 = some (tyJ6 k) := by decide +kernel
abbrev cJ6_bitCount_0f7a4 : ByteArray := prog_13_method_49_code
def yJ6_bitCount_0f7a4 : MethodName := ⟨RJ6, "bitCount", "(I)I"⟩
def RJ9 : String := "java/lang/Math"
def TJ9 : u_T := fun k => match k with
  | _ => ("", "", "", false)
def tyJ9 : Nat → FieldType := fun k => match k with
  | _ => .int
theorem nmJ9 : ∀ a, a < 0 → ∀ b, b < 0 → a ≠ b → (TJ9 a).2.1 ≠ (TJ9 b).2.1 := by decide +kernel
theorem tyJ9_ok : ∀ k, k < 0 → parseFieldDescriptor (TJ9 k).2.2.1 = some (tyJ9 k) := by decide +kernel
abbrev cJ9_max_7cf53 : ByteArray := prog_14_method_65_code
def yJ9_max_7cf53 : MethodName := ⟨RJ9, "max", "(II)I"⟩
abbrev cJ9_min_7cf53 : ByteArray := prog_14_method_69_code
def yJ9_min_7cf53 : MethodName := ⟨RJ9, "min", "(II)I"⟩
def RL : String := "TollDelayLaw"
abbrev cL_law : ByteArray := code
def yL_law : MethodName := ⟨RL, "law", "([I)Z"⟩
abbrev vwCl : List vw_C := [(RX1, TX1, 10), (RX2, TX2, 3), (RX3, TX3, 12), (RX4, TX4, 3), (RX5, TX5, 7), (RX6, TX6, 3), (RX7, TX7, 5), (RX8, TX8, 4), (RX9, TX9, 12), (RX10, TX10, 43)]
end
section
/-! THE MACHINE BY STATES: a heap is a function from places (counted from z) to cells; X says that the walk goes well from here on; Mt is a contract with its outcome given -/
abbrev HpT : Type := Nat → Option va_E
def hup (u : HpT) (k : Nat) (q : va_E) : HpT := fun j => if j = k then some q else u j
theorem hup_s (u : HpT) (k : Nat) (q : va_E) : hup u k q k = some q := by simp [hup]
theorem hup_n {u : HpT} {k j : Nat} {q : va_E} (h : j ≠ k) : hup u k q j = u j := by simp [hup, h]
theorem hup_n' {u : HpT} {k j : Nat} {q : va_E} {w : Option va_E} (h : j ≠ k) (hw : u j = w) : hup u k q j = w := by rw [hup_n h]; exact hw
theorem hup_hup (u : HpT) (k : Nat) (q q2 : va_E) : hup (hup u k q) k q2 = hup u k q2 := by
  funext j
  by_cases h : j = k
  · simp [hup, h]
  · simp [hup, h]
theorem hup_id {u : HpT} {k : Nat} {q : va_E} (h : u k = some q) : hup u k q = u := by
  funext j
  by_cases hj : j = k
  · subst hj
    rw [hup_s, h]
  · rw [hup_n hj]
theorem hup_comm {u : HpT} {k j : Nat} {q q2 : va_E} (h : k ≠ j) : hup (hup u k q) j q2 = hup (hup u j q2) k q := by
  funext i
  by_cases h1 : i = j
  · subst h1
    rw [hup_s, hup_n (Ne.symm h), hup_s]
  · rw [hup_n h1]
    by_cases h2 : i = k
    · subst h2
      rw [hup_s, hup_s]
    · rw [hup_n h2, hup_n h2, hup_n h1]
abbrev GT : Type := va_G × (Nat → ClassId)
abbrev gtys (G : GT) : List (ClassId × FieldType) := [(G.2 0, .int), (G.2 1, .boolean), (G.2 2, .long), (G.2 3, .object RX3), (G.2 4, .object RX4)]
def Kx (G : GT) (U : State) : Prop := va_K G.1 vwCl (gtys G) U ∧ va_AO RX3 U ∧ va_AO RX4 U ∧ ∀ (a : String) (i : Nat) (y : MethodName) (h : String), Cond.methodLinkNest a i y h ∈ lw_tbl → va_Nw (.methodLinkNest a i y h) U
theorem Kx.warm {G : GT} {s U : State} (hW : s.WarmedH U.vm) (h : Kx G s) : Kx G U := ⟨va_K.moved hW.alike h.1, va_AO.moved hW.alike h.2.1, va_AO.moved hW.alike h.2.2.1, fun a i y q hm => va_Nw.warmM hW (h.2.2.2 a i y q hm)⟩
theorem Kx.calling {G : GT} {U : State} {g : JFrame} {mk : MethodId} {a : Array Value} (h : Kx G U) : Kx G (U.calling g mk a) := ⟨va_K.moved (u := U) (U := U.calling g mk a) (Vm.Alike.refl U.vm) h.1, va_AO.moved (u := U) (U := U.calling g mk a) (Vm.Alike.refl U.vm) h.2.1, va_AO.moved (u := U) (U := U.calling g mk a) (Vm.Alike.refl U.vm) h.2.2.1, fun b i y q hm => va_Nw.same rfl rfl (h.2.2.2 b i y q hm)⟩
def lw_good : List Cond := lw_tbl.filter goodWord
theorem mem_good {w : Cond} (i : Nat) (h : lw_tbl[i]? = some w) (hg : goodWord w = true) : w ∈ lw_good := List.mem_filter.mpr ⟨List.mem_of_getElem? h, hg⟩
theorem in_good {ws : List Cond} (h : ∀ w ∈ ws, w ∈ lw_tbl) (hg : ws.all goodWord = true) : ∀ w ∈ ws, w ∈ lw_good := fun w hw => List.mem_filter.mpr ⟨h w hw, List.all_eq_true.mp hg w hw⟩
theorem goodIn_good {y : MethodName} {cc : ByteArray} {nL : Nat} {ret : Option FieldType} (h : Cond.code y cc nL ret ∈ lw_good) : GoodIn lw_good (Cond.code y cc nL ret :: lw_good) := by
  intro w hw
  rcases List.mem_cons.mp hw with rfl | hw
  · exact ⟨h, good_of_word (List.mem_filter.mp h).2⟩
  · exact ⟨hw, good_of_word (List.mem_filter.mp hw).2⟩
def Hd (G : GT) (z : Nat) (u : HpT) (n : Nat) (H : Heap) : Prop := H.size = z + n ∧ ∀ (k : Nat) (q : va_E), u k = some q → va_at G.1 vwCl (z + k, q) H
def zA (z : Nat) : Nat → Prop := fun q => z ≤ q
/-- an array of ints, of booleans, of longs, of references -/
abbrev aI (G : GT) (n : Nat) (f : Nat → Int32) : va_E := .inl (G.2 0, n, .inl f)
abbrev aZ (G : GT) (n : Nat) (f : Nat → Int32) : va_E := .inl (G.2 1, n, .inl f)
abbrev aL (G : GT) (n : Nat) (f : Nat → Int64) : va_E := .inl (G.2 2, n, .inr (.inl f))
abbrev aE (G : GT) (n : Nat) (f : Nat → Option Nat) : va_E := .inl (G.2 3, n, .inr (.inr (.inr (.inr f))))
abbrev aM (G : GT) (n : Nat) (f : Nat → Option Nat) : va_E := .inl (G.2 4, n, .inr (.inr (.inr (.inr f))))
def Cx (p : Program) (s : State) (m : MethodId) (args : Array Value) (c : Code) (G : GT) (own : String) (cc : ByteArray) (nL z : Nat) : Prop :=
  p.tables.exec = Jvm.exec ∧ c.code = cc ∧ c.maxLocals = nL ∧ s.vm.findClass own = some m.cls ∧ (∀ w ∈ lw_good, w.before args s = true) ∧ Kx G s ∧ z ≤ s.heap.size
def Xw (p : Program) (l : Launch) (e : Env) (R : Room) (s : State) (m : MethodId) (args : Array Value) (below : List Frame) (meth : Method) (c : Code) (G : GT) (z nL : Nat) (Z : State → Prop) (pc : Nat) (lo : List (Nat × Value)) (st : List Value) (u : HpT) (n kc ks : Nat) : Prop :=
  ∀ (H : Heap) (locs : List Loc) (ls : Array Slot), lv_has ls nL lo → Hd G z u n H → va_S (zA z) s.heap H locs → W p l e R s m args below meth c H locs kc ks Z (F0 m pc ls st)
def wsY (y : MethodName) (cc : ByteArray) (nL : Nat) (ret : Option FieldType) : List Cond := Cond.code y cc nL ret :: lw_good
def Qm (G : GT) (z : Nat) (r : Option Value) (u : HpT) (n : Nat) : Array Value → State → Outcome → State → Prop := fun _ st oc t => (oc = .returned r ∧ Hd G z u n t.heap) ∧ va_F (zA z) st t
def Mt (G : GT) (l : Launch) (z : Nat) (y : MethodName) (cc : ByteArray) (nL : Nat) (ret : Option FieldType) (rm : Room) (av : List Value) (u : HpT) (n : Nat) (r : Option Value) (u' : HpT) (n' : Nat) : Prop :=
  Met l y (wsY y cc nL ret) rm (va_Pc av (fun U => Hd G z u n U.heap ∧ Kx G U)) (Qm G z r u' n') rm.cells rm.slots (zA z)
theorem Hd.upd {G : GT} {z n a : Nat} {u : HpT} {q : va_E} {H H1 : Heap} (h : Hd G z u n H) (hz : H1.size = H.size) (ho : ∀ x : Nat, x ≠ z + a → H1[x]? = H[x]?) (hq : va_at G.1 vwCl (z + a, q) H1) : Hd G z (hup u a q) n H1 := by
  refine ⟨hz.trans h.1, fun k e hk => ?_⟩
  by_cases hka : k = a
  · subst hka
    rw [hup_s] at hk
    cases hk
    exact hq
  · rw [hup_n hka] at hk
    exact (h.2 k e hk).kept (ho _ (by show z + k ≠ z + a; omega))
theorem Hd.one {G : GT} {z n a : Nat} {u : HpT} {q : va_E} {H : Heap} (h : Hd G z u n H) (hq : u a = some q) : va_P G.1 vwCl [(z + a, q)] H := by
  intro k x hx
  have hz : k < 1 := (List.getElem?_eq_some_iff.mp hx).1
  rw [show k = 0 by omega] at hx
  cases hx
  exact h.2 a q hq
theorem mt_of {G : GT} {l : Launch} {z : Nat} {y : MethodName} {cc : ByteArray} {nL : Nat} {ret : Option FieldType} {rm : Room} {av : List Value} {u : HpT} {n : Nat} {r : Option Value} {u' : HpT} {n' : Nat} (hy : plainName y.cls = true) (hlen : (lg_sl av).length ≤ nL)
    (body : ∀ (p : Program) (e : Env) (s : State) (m : MethodId) (below : List Frame) (meth : Method) (c : Code), Cx p s m av.toArray c G y.cls cc nL z → meth.sig.returnType = ret → meth.locks = false → meth.name = y.name →
      Xw p l e rm s m av.toArray below meth c G z nL (MQ below (Qm G z r u' n') av.toArray s rm.cells rm.slots (zA z)) 0 (lv_args 0 av) [] u n 0 0) : Mt G l z y cc nL ret rm av u n r u' n' := by
  refine Met.ofW (cc := cc) (maxL := nL) (ret := ret) hy rfl ?_
  intro p e s m args below meth c s₁ B hml hv
  obtain ⟨rfl, hH, hK⟩ := hv
  have hts := atoms_spec (ws := wsY y cc nL ret) B.pre
  rw [lg_entry_eq]
  exact body p e s m below meth c ⟨B.exec, B.bytes, hml, findClass_of_methodNamed B.named, fun w hw => hts w (List.mem_cons_of_mem _ hw), hK, by rw [hH.1]; omega⟩ B.returns B.notSynchronized (name_of_methodNamed B.named B.method).1 s.heap [] _ (lv_entry av hlen) hH va_S.rf
section XR
variable {p : Program} {l : Launch} {e : Env} {R : Room} {s : State} {m : MethodId} {args : Array Value} {below : List Frame} {meth : Method} {c : Code} {G : GT} {z nL : Nat} {Z : State → Prop} {pc : Nat} {lo : List (Nat × Value)} {st : List Value} {u : HpT} {n kc ks : Nat} {own : String} {cc : ByteArray}
theorem x_iadd (C : Cx p s m args c G own cc nL z) {x y : Int32} (d : decode cc pc = .ok (.iadd, 1)) (k : Xw p l e R s m args below meth c G z nL Z (pc + 1) lo (.int (x + y) :: st) u n kc ks) : Xw p l e R s m args below meth c G z nL Z pc lo (.int y :: .int x :: st) u n kc ks := fun H locs ls hl hH hS => lv_iadd C.1 C.2.1 d (k H locs ls hl hH hS)
theorem x_isub (C : Cx p s m args c G own cc nL z) {x y : Int32} (d : decode cc pc = .ok (.isub, 1)) (k : Xw p l e R s m args below meth c G z nL Z (pc + 1) lo (.int (x - y) :: st) u n kc ks) : Xw p l e R s m args below meth c G z nL Z pc lo (.int y :: .int x :: st) u n kc ks := fun H locs ls hl hH hS => lv_isub C.1 C.2.1 d (k H locs ls hl hH hS)
theorem x_imul (C : Cx p s m args c G own cc nL z) {x y : Int32} (d : decode cc pc = .ok (.imul, 1)) (k : Xw p l e R s m args below meth c G z nL Z (pc + 1) lo (.int (x * y) :: st) u n kc ks) : Xw p l e R s m args below meth c G z nL Z pc lo (.int y :: .int x :: st) u n kc ks := fun H locs ls hl hH hS => lv_imul C.1 C.2.1 d (k H locs ls hl hH hS)
theorem x_iand (C : Cx p s m args c G own cc nL z) {x y : Int32} (d : decode cc pc = .ok (.iand, 1)) (k : Xw p l e R s m args below meth c G z nL Z (pc + 1) lo (.int (x &&& y) :: st) u n kc ks) : Xw p l e R s m args below meth c G z nL Z pc lo (.int y :: .int x :: st) u n kc ks := fun H locs ls hl hH hS => lv_iand C.1 C.2.1 d (k H locs ls hl hH hS)
theorem x_ior (C : Cx p s m args c G own cc nL z) {x y : Int32} (d : decode cc pc = .ok (.ior, 1)) (k : Xw p l e R s m args below meth c G z nL Z (pc + 1) lo (.int (x ||| y) :: st) u n kc ks) : Xw p l e R s m args below meth c G z nL Z pc lo (.int y :: .int x :: st) u n kc ks := fun H locs ls hl hH hS => lv_ior C.1 C.2.1 d (k H locs ls hl hH hS)
theorem x_ixor (C : Cx p s m args c G own cc nL z) {x y : Int32} (d : decode cc pc = .ok (.ixor, 1)) (k : Xw p l e R s m args below meth c G z nL Z (pc + 1) lo (.int (x ^^^ y) :: st) u n kc ks) : Xw p l e R s m args below meth c G z nL Z pc lo (.int y :: .int x :: st) u n kc ks := fun H locs ls hl hH hS => lv_ixor C.1 C.2.1 d (k H locs ls hl hH hS)
theorem x_ishl (C : Cx p s m args c G own cc nL z) {x y : Int32} (d : decode cc pc = .ok (.ishl, 1)) (k : Xw p l e R s m args below meth c G z nL Z (pc + 1) lo (.int (x <<< (y &&& 31)) :: st) u n kc ks) : Xw p l e R s m args below meth c G z nL Z pc lo (.int y :: .int x :: st) u n kc ks := fun H locs ls hl hH hS => lv_ishl C.1 C.2.1 d (k H locs ls hl hH hS)
theorem x_ishr (C : Cx p s m args c G own cc nL z) {x y : Int32} (d : decode cc pc = .ok (.ishr, 1)) (k : Xw p l e R s m args below meth c G z nL Z (pc + 1) lo (.int (x >>> (y &&& 31)) :: st) u n kc ks) : Xw p l e R s m args below meth c G z nL Z pc lo (.int y :: .int x :: st) u n kc ks := fun H locs ls hl hH hS => lv_ishr C.1 C.2.1 d (k H locs ls hl hH hS)
theorem x_iushr (C : Cx p s m args c G own cc nL z) {x y : Int32} (d : decode cc pc = .ok (.iushr, 1)) (k : Xw p l e R s m args below meth c G z nL Z (pc + 1) lo (.int ((x.toUInt32 >>> (y.toUInt32 &&& Int32.toUInt32 31)).toInt32) :: st) u n kc ks) : Xw p l e R s m args below meth c G z nL Z pc lo (.int y :: .int x :: st) u n kc ks := fun H locs ls hl hH hS => lv_iushr C.1 C.2.1 d rfl (k H locs ls hl hH hS)
theorem x_idiv (C : Cx p s m args c G own cc nL z) {x y : Int32} (d : decode cc pc = .ok (.idiv, 1)) (hne : ¬ y = 0) (k : Xw p l e R s m args below meth c G z nL Z (pc + 1) lo (.int (x / y) :: st) u n kc ks) : Xw p l e R s m args below meth c G z nL Z pc lo (.int y :: .int x :: st) u n kc ks := fun H locs ls hl hH hS => lv_idiv C.1 C.2.1 d hne (k H locs ls hl hH hS)
theorem x_irem (C : Cx p s m args c G own cc nL z) {x y : Int32} (d : decode cc pc = .ok (.irem, 1)) (hne : ¬ y = 0) (k : Xw p l e R s m args below meth c G z nL Z (pc + 1) lo (.int (x - x / y * y) :: st) u n kc ks) : Xw p l e R s m args below meth c G z nL Z pc lo (.int y :: .int x :: st) u n kc ks := fun H locs ls hl hH hS => lv_irem C.1 C.2.1 d hne (k H locs ls hl hH hS)
theorem x_ldiv (C : Cx p s m args c G own cc nL z) {x y : Int64} (d : decode cc pc = .ok (.ldiv, 1)) (hne : ¬ y = 0) (k : Xw p l e R s m args below meth c G z nL Z (pc + 1) lo (.long (x / y) :: st) u n kc ks) : Xw p l e R s m args below meth c G z nL Z pc lo (.long y :: .long x :: st) u n kc ks := fun H locs ls hl hH hS => lv_ldiv C.1 C.2.1 d hne (k H locs ls hl hH hS)
theorem x_lrem (C : Cx p s m args c G own cc nL z) {x y : Int64} (d : decode cc pc = .ok (.lrem, 1)) (hne : ¬ y = 0) (k : Xw p l e R s m args below meth c G z nL Z (pc + 1) lo (.long (x - x / y * y) :: st) u n kc ks) : Xw p l e R s m args below meth c G z nL Z pc lo (.long y :: .long x :: st) u n kc ks := fun H locs ls hl hH hS => lv_lrem C.1 C.2.1 d hne (k H locs ls hl hH hS)
theorem x_ladd (C : Cx p s m args c G own cc nL z) {x y : Int64} (d : decode cc pc = .ok (.ladd, 1)) (k : Xw p l e R s m args below meth c G z nL Z (pc + 1) lo (.long (x + y) :: st) u n kc ks) : Xw p l e R s m args below meth c G z nL Z pc lo (.long y :: .long x :: st) u n kc ks := fun H locs ls hl hH hS => lv_ladd C.1 C.2.1 d (k H locs ls hl hH hS)
theorem x_lmul (C : Cx p s m args c G own cc nL z) {x y : Int64} (d : decode cc pc = .ok (.lmul, 1)) (k : Xw p l e R s m args below meth c G z nL Z (pc + 1) lo (.long (x * y) :: st) u n kc ks) : Xw p l e R s m args below meth c G z nL Z pc lo (.long y :: .long x :: st) u n kc ks := fun H locs ls hl hH hS => lv_lmul C.1 C.2.1 d (k H locs ls hl hH hS)
theorem x_ineg (C : Cx p s m args c G own cc nL z) {x : Int32} (d : decode cc pc = .ok (.ineg, 1)) (k : Xw p l e R s m args below meth c G z nL Z (pc + 1) lo (.int (-x) :: st) u n kc ks) : Xw p l e R s m args below meth c G z nL Z pc lo (.int x :: st) u n kc ks := fun H locs ls hl hH hS => lv_ineg C.1 C.2.1 d (k H locs ls hl hH hS)
theorem x_i2l (C : Cx p s m args c G own cc nL z) {x : Int32} (d : decode cc pc = .ok (.i2l, 1)) (k : Xw p l e R s m args below meth c G z nL Z (pc + 1) lo (.long x.toInt64 :: st) u n kc ks) : Xw p l e R s m args below meth c G z nL Z pc lo (.int x :: st) u n kc ks := fun H locs ls hl hH hS => lv_i2l C.1 C.2.1 d rfl (k H locs ls hl hH hS)
theorem x_l2i (C : Cx p s m args c G own cc nL z) {x : Int64} (d : decode cc pc = .ok (.l2i, 1)) (k : Xw p l e R s m args below meth c G z nL Z (pc + 1) lo (.int x.toInt32 :: st) u n kc ks) : Xw p l e R s m args below meth c G z nL Z pc lo (.long x :: st) u n kc ks := fun H locs ls hl hH hS => lv_l2i C.1 C.2.1 d rfl (k H locs ls hl hH hS)
theorem x_dup (C : Cx p s m args c G own cc nL z) {va : Value} (d : decode cc pc = .ok (.dup, 1)) (hva : va.category = 1) (k : Xw p l e R s m args below meth c G z nL Z (pc + 1) lo (va :: va :: st) u n kc ks) : Xw p l e R s m args below meth c G z nL Z pc lo (va :: st) u n kc ks := fun H locs ls hl hH hS => lv_dup C.1 C.2.1 d hva (k H locs ls hl hH hS)
theorem x_pop (C : Cx p s m args c G own cc nL z) {va : Value} (d : decode cc pc = .ok (.pop, 1)) (hva : va.category = 1) (k : Xw p l e R s m args below meth c G z nL Z (pc + 1) lo (st) u n kc ks) : Xw p l e R s m args below meth c G z nL Z pc lo (va :: st) u n kc ks := fun H locs ls hl hH hS => lv_pop C.1 C.2.1 d hva (k H locs ls hl hH hS)
theorem x_dup2 (C : Cx p s m args c G own cc nL z) {va vb : Value} (d : decode cc pc = .ok (.dup2, 1)) (hva : va.category = 1) (hvb : vb.category = 1) (k : Xw p l e R s m args below meth c G z nL Z (pc + 1) lo (va :: vb :: va :: vb :: st) u n kc ks) : Xw p l e R s m args below meth c G z nL Z pc lo (va :: vb :: st) u n kc ks := fun H locs ls hl hH hS => lv_dup2_11 C.1 C.2.1 d hva hvb (k H locs ls hl hH hS)
theorem x_iconst (C : Cx p s m args c G own cc nL z) {k0 : Int} {v : Int32} (d : decode cc pc = .ok (.iconst k0, 1)) (hv : Int32.ofInt k0 = v) (k : Xw p l e R s m args below meth c G z nL Z (pc + 1) lo (.int v :: st) u n kc ks) : Xw p l e R s m args below meth c G z nL Z pc lo (st) u n kc ks := fun H locs ls hl hH hS => lv_iconst C.1 C.2.1 d hv (k H locs ls hl hH hS)
theorem x_bipush (C : Cx p s m args c G own cc nL z) {k0 : Int} {v : Int32} (d : decode cc pc = .ok (.bipush k0, 2)) (hv : (Int8.ofInt k0).toInt32 = v) (k : Xw p l e R s m args below meth c G z nL Z (pc + 2) lo (.int v :: st) u n kc ks) : Xw p l e R s m args below meth c G z nL Z pc lo (st) u n kc ks := fun H locs ls hl hH hS => lv_bipush C.1 C.2.1 d hv (k H locs ls hl hH hS)
theorem x_sipush (C : Cx p s m args c G own cc nL z) {k0 : Int} {v : Int32} (d : decode cc pc = .ok (.sipush k0, 3)) (hv : (Int16.ofInt k0).toInt32 = v) (k : Xw p l e R s m args below meth c G z nL Z (pc + 3) lo (.int v :: st) u n kc ks) : Xw p l e R s m args below meth c G z nL Z pc lo (st) u n kc ks := fun H locs ls hl hH hS => lv_sipush C.1 C.2.1 d hv (k H locs ls hl hH hS)
theorem x_iload_n (C : Cx p s m args c G own cc nL z) (j : Nat) {k0 : Fin 4} {i : Nat} {x : Int32} (d : decode cc pc = .ok (.iload_n k0, 1)) (hi : (k0 : Nat) = i) (hj : lo[j]? = some (i, .int x)) (k : Xw p l e R s m args below meth c G z nL Z (pc + 1) lo (.int x :: st) u n kc ks) : Xw p l e R s m args below meth c G z nL Z pc lo st u n kc ks := fun H locs ls hl hH hS => lv_iload_n C.1 C.2.1 d hi (lv_at hl j hj) (k H locs ls hl hH hS)
theorem x_iload (C : Cx p s m args c G own cc nL z) (j : Nat) {i : Nat} {x : Int32} (d : decode cc pc = .ok (.iload i, 2)) (hj : lo[j]? = some (i, .int x)) (k : Xw p l e R s m args below meth c G z nL Z (pc + 2) lo (.int x :: st) u n kc ks) : Xw p l e R s m args below meth c G z nL Z pc lo st u n kc ks := fun H locs ls hl hH hS => lv_iload C.1 C.2.1 d (lv_at hl j hj) (k H locs ls hl hH hS)
theorem x_istore_n (C : Cx p s m args c G own cc nL z) (lo2 : List (Nat × Value)) {k0 : Fin 4} {i : Nat} {x : Int32} (d : decode cc pc = .ok (.istore_n k0, 1)) (hi : (k0 : Nat) = i) (hn : i < nL) (h2 : (i, Value.int x) :: lo.filter (fun q => !(q.1 == i) && !(q.1 + 1 == i && q.2.category == 2)) = lo2) (k : Xw p l e R s m args below meth c G z nL Z (pc + 1) lo2 st u n kc ks) : Xw p l e R s m args below meth c G z nL Z pc lo (.int x :: st) u n kc ks := fun H locs ls hl hH hS => lv_istore_n C.1 C.2.1 d hi hl hn h2 (fun ls hl => k H locs ls hl hH hS)
theorem x_istore (C : Cx p s m args c G own cc nL z) (lo2 : List (Nat × Value)) {i : Nat} {x : Int32} (d : decode cc pc = .ok (.istore i, 2)) (hn : i < nL) (h2 : (i, Value.int x) :: lo.filter (fun q => !(q.1 == i) && !(q.1 + 1 == i && q.2.category == 2)) = lo2) (k : Xw p l e R s m args below meth c G z nL Z (pc + 2) lo2 st u n kc ks) : Xw p l e R s m args below meth c G z nL Z pc lo (.int x :: st) u n kc ks := fun H locs ls hl hH hS => lv_istore C.1 C.2.1 d hl hn h2 (fun ls hl => k H locs ls hl hH hS)
theorem x_lload_n (C : Cx p s m args c G own cc nL z) (j : Nat) {k0 : Fin 4} {i : Nat} {x : Int64} (d : decode cc pc = .ok (.lload_n k0, 1)) (hi : (k0 : Nat) = i) (hj : lo[j]? = some (i, .long x)) (k : Xw p l e R s m args below meth c G z nL Z (pc + 1) lo (.long x :: st) u n kc ks) : Xw p l e R s m args below meth c G z nL Z pc lo st u n kc ks := fun H locs ls hl hH hS => lv_lload_n C.1 C.2.1 d hi (lv_at hl j hj) (k H locs ls hl hH hS)
theorem x_lload (C : Cx p s m args c G own cc nL z) (j : Nat) {i : Nat} {x : Int64} (d : decode cc pc = .ok (.lload i, 2)) (hj : lo[j]? = some (i, .long x)) (k : Xw p l e R s m args below meth c G z nL Z (pc + 2) lo (.long x :: st) u n kc ks) : Xw p l e R s m args below meth c G z nL Z pc lo st u n kc ks := fun H locs ls hl hH hS => lv_lload C.1 C.2.1 d (lv_at hl j hj) (k H locs ls hl hH hS)
theorem x_lstore_n (C : Cx p s m args c G own cc nL z) (lo2 : List (Nat × Value)) {k0 : Fin 4} {i : Nat} {x : Int64} (d : decode cc pc = .ok (.lstore_n k0, 1)) (hi : (k0 : Nat) = i) (hn : i + 1 < nL) (h2 : (i, Value.long x) :: lo.filter (fun q => !(q.1 == i) && (!(q.1 == i + 1) && !(q.1 + 1 == i && q.2.category == 2))) = lo2) (k : Xw p l e R s m args below meth c G z nL Z (pc + 1) lo2 st u n kc ks) : Xw p l e R s m args below meth c G z nL Z pc lo (.long x :: st) u n kc ks := fun H locs ls hl hH hS => lv_lstore_n C.1 C.2.1 d hi hl hn h2 (fun ls hl => k H locs ls hl hH hS)
theorem x_lstore (C : Cx p s m args c G own cc nL z) (lo2 : List (Nat × Value)) {i : Nat} {x : Int64} (d : decode cc pc = .ok (.lstore i, 2)) (hn : i + 1 < nL) (h2 : (i, Value.long x) :: lo.filter (fun q => !(q.1 == i) && (!(q.1 == i + 1) && !(q.1 + 1 == i && q.2.category == 2))) = lo2) (k : Xw p l e R s m args below meth c G z nL Z (pc + 2) lo2 st u n kc ks) : Xw p l e R s m args below meth c G z nL Z pc lo (.long x :: st) u n kc ks := fun H locs ls hl hH hS => lv_lstore C.1 C.2.1 d hl hn h2 (fun ls hl => k H locs ls hl hH hS)
theorem x_aload_n (C : Cx p s m args c G own cc nL z) (j : Nat) {k0 : Fin 4} {i : Nat} {x : Nat} (d : decode cc pc = .ok (.aload_n k0, 1)) (hi : (k0 : Nat) = i) (hj : lo[j]? = some (i, .ref x)) (k : Xw p l e R s m args below meth c G z nL Z (pc + 1) lo (.ref x :: st) u n kc ks) : Xw p l e R s m args below meth c G z nL Z pc lo st u n kc ks := fun H locs ls hl hH hS => lv_aload_n C.1 C.2.1 d hi (lv_at hl j hj) (k H locs ls hl hH hS)
theorem x_aload (C : Cx p s m args c G own cc nL z) (j : Nat) {i : Nat} {x : Nat} (d : decode cc pc = .ok (.aload i, 2)) (hj : lo[j]? = some (i, .ref x)) (k : Xw p l e R s m args below meth c G z nL Z (pc + 2) lo (.ref x :: st) u n kc ks) : Xw p l e R s m args below meth c G z nL Z pc lo st u n kc ks := fun H locs ls hl hH hS => lv_aload C.1 C.2.1 d (lv_at hl j hj) (k H locs ls hl hH hS)
theorem x_astore_n (C : Cx p s m args c G own cc nL z) (lo2 : List (Nat × Value)) {k0 : Fin 4} {i : Nat} {x : Nat} (d : decode cc pc = .ok (.astore_n k0, 1)) (hi : (k0 : Nat) = i) (hn : i < nL) (h2 : (i, Value.ref x) :: lo.filter (fun q => !(q.1 == i) && !(q.1 + 1 == i && q.2.category == 2)) = lo2) (k : Xw p l e R s m args below meth c G z nL Z (pc + 1) lo2 st u n kc ks) : Xw p l e R s m args below meth c G z nL Z pc lo (.ref x :: st) u n kc ks := fun H locs ls hl hH hS => lv_astore_n C.1 C.2.1 d hi hl hn h2 (fun ls hl => k H locs ls hl hH hS)
theorem x_astore (C : Cx p s m args c G own cc nL z) (lo2 : List (Nat × Value)) {i : Nat} {x : Nat} (d : decode cc pc = .ok (.astore i, 2)) (hn : i < nL) (h2 : (i, Value.ref x) :: lo.filter (fun q => !(q.1 == i) && !(q.1 + 1 == i && q.2.category == 2)) = lo2) (k : Xw p l e R s m args below meth c G z nL Z (pc + 2) lo2 st u n kc ks) : Xw p l e R s m args below meth c G z nL Z pc lo (.ref x :: st) u n kc ks := fun H locs ls hl hH hS => lv_astore C.1 C.2.1 d hl hn h2 (fun ls hl => k H locs ls hl hH hS)
theorem x_iinc (C : Cx p s m args c G own cc nL z) (j : Nat) (lo2 : List (Nat × Value)) {i : Nat} {k0 : Int} {x v : Int32} (d : decode cc pc = .ok (.iinc i k0, 3)) (hj : lo[j]? = some (i, .int x)) (hv : x + Int32.ofInt k0 = v) (hn : i < nL) (h2 : (i, Value.int v) :: lo.filter (fun q => !(q.1 == i) && !(q.1 + 1 == i && q.2.category == 2)) = lo2) (k : Xw p l e R s m args below meth c G z nL Z (pc + 3) lo2 st u n kc ks) : Xw p l e R s m args below meth c G z nL Z pc lo st u n kc ks := fun H locs ls hl hH hS => lv_iinc C.1 C.2.1 d hl hj hv hn h2 (fun ls hl => k H locs ls hl hH hS)
theorem x_icmp_eq (C : Cx p s m args c G own cc nL z) {x y : Int32} {off : Int} (tgt : Nat) (d : decode cc pc = .ok (.if_icmp .eq off, 3)) (ht : (pc : Int) + off = (tgt : Int)) (kt : x = y → Xw p l e R s m args below meth c G z nL Z tgt lo st u n kc ks) (kf : ¬ x = y → Xw p l e R s m args below meth c G z nL Z (pc + 3) lo st u n kc ks) : Xw p l e R s m args below meth c G z nL Z pc lo (.int y :: .int x :: st) u n kc ks := fun H locs ls hl hH hS => lv_icmp_eq C.1 C.2.1 d ht (fun h => kt h H locs ls hl hH hS) (fun h => kf h H locs ls hl hH hS)
theorem x_icmp_eq_t (C : Cx p s m args c G own cc nL z) {x y : Int32} {off : Int} (tgt : Nat) (d : decode cc pc = .ok (.if_icmp .eq off, 3)) (ht : (pc : Int) + off = (tgt : Int)) (h : x = y) (kt : Xw p l e R s m args below meth c G z nL Z tgt lo st u n kc ks) : Xw p l e R s m args below meth c G z nL Z pc lo (.int y :: .int x :: st) u n kc ks := fun H locs ls hl hH hS => lv_icmp_eq C.1 C.2.1 d ht (fun _ => kt H locs ls hl hH hS) (fun h9 => absurd h (by first | exact h9 | exact fun q => q h9))
theorem x_icmp_eq_f (C : Cx p s m args c G own cc nL z) {x y : Int32} {off : Int} (tgt : Nat) (d : decode cc pc = .ok (.if_icmp .eq off, 3)) (ht : (pc : Int) + off = (tgt : Int)) (h : ¬ x = y) (kf : Xw p l e R s m args below meth c G z nL Z (pc + 3) lo st u n kc ks) : Xw p l e R s m args below meth c G z nL Z pc lo (.int y :: .int x :: st) u n kc ks := fun H locs ls hl hH hS => lv_icmp_eq C.1 C.2.1 d ht (fun h9 => absurd h9 (by first | exact h | exact fun q => q h)) (fun _ => kf H locs ls hl hH hS)
theorem x_if_eq (C : Cx p s m args c G own cc nL z) {x : Int32} {off : Int} (tgt : Nat) (d : decode cc pc = .ok (.ifCond .eq off, 3)) (ht : (pc : Int) + off = (tgt : Int)) (kt : x = 0 → Xw p l e R s m args below meth c G z nL Z tgt lo st u n kc ks) (kf : ¬ x = 0 → Xw p l e R s m args below meth c G z nL Z (pc + 3) lo st u n kc ks) : Xw p l e R s m args below meth c G z nL Z pc lo (.int x :: st) u n kc ks := fun H locs ls hl hH hS => lv_if_eq C.1 C.2.1 d ht (fun h => kt h H locs ls hl hH hS) (fun h => kf h H locs ls hl hH hS)
theorem x_if_eq_t (C : Cx p s m args c G own cc nL z) {x : Int32} {off : Int} (tgt : Nat) (d : decode cc pc = .ok (.ifCond .eq off, 3)) (ht : (pc : Int) + off = (tgt : Int)) (h : x = 0) (kt : Xw p l e R s m args below meth c G z nL Z tgt lo st u n kc ks) : Xw p l e R s m args below meth c G z nL Z pc lo (.int x :: st) u n kc ks := fun H locs ls hl hH hS => lv_if_eq C.1 C.2.1 d ht (fun _ => kt H locs ls hl hH hS) (fun h9 => absurd h (by first | exact h9 | exact fun q => q h9))
theorem x_if_eq_f (C : Cx p s m args c G own cc nL z) {x : Int32} {off : Int} (tgt : Nat) (d : decode cc pc = .ok (.ifCond .eq off, 3)) (ht : (pc : Int) + off = (tgt : Int)) (h : ¬ x = 0) (kf : Xw p l e R s m args below meth c G z nL Z (pc + 3) lo st u n kc ks) : Xw p l e R s m args below meth c G z nL Z pc lo (.int x :: st) u n kc ks := fun H locs ls hl hH hS => lv_if_eq C.1 C.2.1 d ht (fun h9 => absurd h9 (by first | exact h | exact fun q => q h)) (fun _ => kf H locs ls hl hH hS)
theorem x_icmp_ne (C : Cx p s m args c G own cc nL z) {x y : Int32} {off : Int} (tgt : Nat) (d : decode cc pc = .ok (.if_icmp .ne off, 3)) (ht : (pc : Int) + off = (tgt : Int)) (kt : ¬ x = y → Xw p l e R s m args below meth c G z nL Z tgt lo st u n kc ks) (kf : x = y → Xw p l e R s m args below meth c G z nL Z (pc + 3) lo st u n kc ks) : Xw p l e R s m args below meth c G z nL Z pc lo (.int y :: .int x :: st) u n kc ks := fun H locs ls hl hH hS => lv_icmp_ne C.1 C.2.1 d ht (fun h => kt h H locs ls hl hH hS) (fun h => kf h H locs ls hl hH hS)
theorem x_icmp_ne_t (C : Cx p s m args c G own cc nL z) {x y : Int32} {off : Int} (tgt : Nat) (d : decode cc pc = .ok (.if_icmp .ne off, 3)) (ht : (pc : Int) + off = (tgt : Int)) (h : ¬ x = y) (kt : Xw p l e R s m args below meth c G z nL Z tgt lo st u n kc ks) : Xw p l e R s m args below meth c G z nL Z pc lo (.int y :: .int x :: st) u n kc ks := fun H locs ls hl hH hS => lv_icmp_ne C.1 C.2.1 d ht (fun _ => kt H locs ls hl hH hS) (fun h9 => absurd h (by first | exact h9 | exact fun q => q h9))
theorem x_icmp_ne_f (C : Cx p s m args c G own cc nL z) {x y : Int32} {off : Int} (tgt : Nat) (d : decode cc pc = .ok (.if_icmp .ne off, 3)) (ht : (pc : Int) + off = (tgt : Int)) (h : x = y) (kf : Xw p l e R s m args below meth c G z nL Z (pc + 3) lo st u n kc ks) : Xw p l e R s m args below meth c G z nL Z pc lo (.int y :: .int x :: st) u n kc ks := fun H locs ls hl hH hS => lv_icmp_ne C.1 C.2.1 d ht (fun h9 => absurd h9 (by first | exact h | exact fun q => q h)) (fun _ => kf H locs ls hl hH hS)
theorem x_if_ne (C : Cx p s m args c G own cc nL z) {x : Int32} {off : Int} (tgt : Nat) (d : decode cc pc = .ok (.ifCond .ne off, 3)) (ht : (pc : Int) + off = (tgt : Int)) (kt : ¬ x = 0 → Xw p l e R s m args below meth c G z nL Z tgt lo st u n kc ks) (kf : x = 0 → Xw p l e R s m args below meth c G z nL Z (pc + 3) lo st u n kc ks) : Xw p l e R s m args below meth c G z nL Z pc lo (.int x :: st) u n kc ks := fun H locs ls hl hH hS => lv_if_ne C.1 C.2.1 d ht (fun h => kt h H locs ls hl hH hS) (fun h => kf h H locs ls hl hH hS)
theorem x_if_ne_t (C : Cx p s m args c G own cc nL z) {x : Int32} {off : Int} (tgt : Nat) (d : decode cc pc = .ok (.ifCond .ne off, 3)) (ht : (pc : Int) + off = (tgt : Int)) (h : ¬ x = 0) (kt : Xw p l e R s m args below meth c G z nL Z tgt lo st u n kc ks) : Xw p l e R s m args below meth c G z nL Z pc lo (.int x :: st) u n kc ks := fun H locs ls hl hH hS => lv_if_ne C.1 C.2.1 d ht (fun _ => kt H locs ls hl hH hS) (fun h9 => absurd h (by first | exact h9 | exact fun q => q h9))
theorem x_if_ne_f (C : Cx p s m args c G own cc nL z) {x : Int32} {off : Int} (tgt : Nat) (d : decode cc pc = .ok (.ifCond .ne off, 3)) (ht : (pc : Int) + off = (tgt : Int)) (h : x = 0) (kf : Xw p l e R s m args below meth c G z nL Z (pc + 3) lo st u n kc ks) : Xw p l e R s m args below meth c G z nL Z pc lo (.int x :: st) u n kc ks := fun H locs ls hl hH hS => lv_if_ne C.1 C.2.1 d ht (fun h9 => absurd h9 (by first | exact h | exact fun q => q h)) (fun _ => kf H locs ls hl hH hS)
theorem x_icmp_lt (C : Cx p s m args c G own cc nL z) {x y : Int32} {off : Int} (tgt : Nat) (d : decode cc pc = .ok (.if_icmp .lt off, 3)) (ht : (pc : Int) + off = (tgt : Int)) (kt : x < y → Xw p l e R s m args below meth c G z nL Z tgt lo st u n kc ks) (kf : ¬ x < y → Xw p l e R s m args below meth c G z nL Z (pc + 3) lo st u n kc ks) : Xw p l e R s m args below meth c G z nL Z pc lo (.int y :: .int x :: st) u n kc ks := fun H locs ls hl hH hS => lv_icmp_lt C.1 C.2.1 d ht (fun h => kt h H locs ls hl hH hS) (fun h => kf h H locs ls hl hH hS)
theorem x_icmp_lt_t (C : Cx p s m args c G own cc nL z) {x y : Int32} {off : Int} (tgt : Nat) (d : decode cc pc = .ok (.if_icmp .lt off, 3)) (ht : (pc : Int) + off = (tgt : Int)) (h : x < y) (kt : Xw p l e R s m args below meth c G z nL Z tgt lo st u n kc ks) : Xw p l e R s m args below meth c G z nL Z pc lo (.int y :: .int x :: st) u n kc ks := fun H locs ls hl hH hS => lv_icmp_lt C.1 C.2.1 d ht (fun _ => kt H locs ls hl hH hS) (fun h9 => absurd h (by first | exact h9 | exact fun q => q h9))
theorem x_icmp_lt_f (C : Cx p s m args c G own cc nL z) {x y : Int32} {off : Int} (tgt : Nat) (d : decode cc pc = .ok (.if_icmp .lt off, 3)) (ht : (pc : Int) + off = (tgt : Int)) (h : ¬ x < y) (kf : Xw p l e R s m args below meth c G z nL Z (pc + 3) lo st u n kc ks) : Xw p l e R s m args below meth c G z nL Z pc lo (.int y :: .int x :: st) u n kc ks := fun H locs ls hl hH hS => lv_icmp_lt C.1 C.2.1 d ht (fun h9 => absurd h9 (by first | exact h | exact fun q => q h)) (fun _ => kf H locs ls hl hH hS)
theorem x_if_lt (C : Cx p s m args c G own cc nL z) {x : Int32} {off : Int} (tgt : Nat) (d : decode cc pc = .ok (.ifCond .lt off, 3)) (ht : (pc : Int) + off = (tgt : Int)) (kt : x < 0 → Xw p l e R s m args below meth c G z nL Z tgt lo st u n kc ks) (kf : ¬ x < 0 → Xw p l e R s m args below meth c G z nL Z (pc + 3) lo st u n kc ks) : Xw p l e R s m args below meth c G z nL Z pc lo (.int x :: st) u n kc ks := fun H locs ls hl hH hS => lv_if_lt C.1 C.2.1 d ht (fun h => kt h H locs ls hl hH hS) (fun h => kf h H locs ls hl hH hS)
theorem x_if_lt_t (C : Cx p s m args c G own cc nL z) {x : Int32} {off : Int} (tgt : Nat) (d : decode cc pc = .ok (.ifCond .lt off, 3)) (ht : (pc : Int) + off = (tgt : Int)) (h : x < 0) (kt : Xw p l e R s m args below meth c G z nL Z tgt lo st u n kc ks) : Xw p l e R s m args below meth c G z nL Z pc lo (.int x :: st) u n kc ks := fun H locs ls hl hH hS => lv_if_lt C.1 C.2.1 d ht (fun _ => kt H locs ls hl hH hS) (fun h9 => absurd h (by first | exact h9 | exact fun q => q h9))
theorem x_if_lt_f (C : Cx p s m args c G own cc nL z) {x : Int32} {off : Int} (tgt : Nat) (d : decode cc pc = .ok (.ifCond .lt off, 3)) (ht : (pc : Int) + off = (tgt : Int)) (h : ¬ x < 0) (kf : Xw p l e R s m args below meth c G z nL Z (pc + 3) lo st u n kc ks) : Xw p l e R s m args below meth c G z nL Z pc lo (.int x :: st) u n kc ks := fun H locs ls hl hH hS => lv_if_lt C.1 C.2.1 d ht (fun h9 => absurd h9 (by first | exact h | exact fun q => q h)) (fun _ => kf H locs ls hl hH hS)
theorem x_icmp_ge (C : Cx p s m args c G own cc nL z) {x y : Int32} {off : Int} (tgt : Nat) (d : decode cc pc = .ok (.if_icmp .ge off, 3)) (ht : (pc : Int) + off = (tgt : Int)) (kt : y ≤ x → Xw p l e R s m args below meth c G z nL Z tgt lo st u n kc ks) (kf : ¬ y ≤ x → Xw p l e R s m args below meth c G z nL Z (pc + 3) lo st u n kc ks) : Xw p l e R s m args below meth c G z nL Z pc lo (.int y :: .int x :: st) u n kc ks := fun H locs ls hl hH hS => lv_icmp_ge C.1 C.2.1 d ht (fun h => kt h H locs ls hl hH hS) (fun h => kf h H locs ls hl hH hS)
theorem x_icmp_ge_t (C : Cx p s m args c G own cc nL z) {x y : Int32} {off : Int} (tgt : Nat) (d : decode cc pc = .ok (.if_icmp .ge off, 3)) (ht : (pc : Int) + off = (tgt : Int)) (h : y ≤ x) (kt : Xw p l e R s m args below meth c G z nL Z tgt lo st u n kc ks) : Xw p l e R s m args below meth c G z nL Z pc lo (.int y :: .int x :: st) u n kc ks := fun H locs ls hl hH hS => lv_icmp_ge C.1 C.2.1 d ht (fun _ => kt H locs ls hl hH hS) (fun h9 => absurd h (by first | exact h9 | exact fun q => q h9))
theorem x_icmp_ge_f (C : Cx p s m args c G own cc nL z) {x y : Int32} {off : Int} (tgt : Nat) (d : decode cc pc = .ok (.if_icmp .ge off, 3)) (ht : (pc : Int) + off = (tgt : Int)) (h : ¬ y ≤ x) (kf : Xw p l e R s m args below meth c G z nL Z (pc + 3) lo st u n kc ks) : Xw p l e R s m args below meth c G z nL Z pc lo (.int y :: .int x :: st) u n kc ks := fun H locs ls hl hH hS => lv_icmp_ge C.1 C.2.1 d ht (fun h9 => absurd h9 (by first | exact h | exact fun q => q h)) (fun _ => kf H locs ls hl hH hS)
theorem x_if_ge (C : Cx p s m args c G own cc nL z) {x : Int32} {off : Int} (tgt : Nat) (d : decode cc pc = .ok (.ifCond .ge off, 3)) (ht : (pc : Int) + off = (tgt : Int)) (kt : 0 ≤ x → Xw p l e R s m args below meth c G z nL Z tgt lo st u n kc ks) (kf : ¬ 0 ≤ x → Xw p l e R s m args below meth c G z nL Z (pc + 3) lo st u n kc ks) : Xw p l e R s m args below meth c G z nL Z pc lo (.int x :: st) u n kc ks := fun H locs ls hl hH hS => lv_if_ge C.1 C.2.1 d ht (fun h => kt h H locs ls hl hH hS) (fun h => kf h H locs ls hl hH hS)
theorem x_if_ge_t (C : Cx p s m args c G own cc nL z) {x : Int32} {off : Int} (tgt : Nat) (d : decode cc pc = .ok (.ifCond .ge off, 3)) (ht : (pc : Int) + off = (tgt : Int)) (h : 0 ≤ x) (kt : Xw p l e R s m args below meth c G z nL Z tgt lo st u n kc ks) : Xw p l e R s m args below meth c G z nL Z pc lo (.int x :: st) u n kc ks := fun H locs ls hl hH hS => lv_if_ge C.1 C.2.1 d ht (fun _ => kt H locs ls hl hH hS) (fun h9 => absurd h (by first | exact h9 | exact fun q => q h9))
theorem x_if_ge_f (C : Cx p s m args c G own cc nL z) {x : Int32} {off : Int} (tgt : Nat) (d : decode cc pc = .ok (.ifCond .ge off, 3)) (ht : (pc : Int) + off = (tgt : Int)) (h : ¬ 0 ≤ x) (kf : Xw p l e R s m args below meth c G z nL Z (pc + 3) lo st u n kc ks) : Xw p l e R s m args below meth c G z nL Z pc lo (.int x :: st) u n kc ks := fun H locs ls hl hH hS => lv_if_ge C.1 C.2.1 d ht (fun h9 => absurd h9 (by first | exact h | exact fun q => q h)) (fun _ => kf H locs ls hl hH hS)
theorem x_icmp_gt (C : Cx p s m args c G own cc nL z) {x y : Int32} {off : Int} (tgt : Nat) (d : decode cc pc = .ok (.if_icmp .gt off, 3)) (ht : (pc : Int) + off = (tgt : Int)) (kt : y < x → Xw p l e R s m args below meth c G z nL Z tgt lo st u n kc ks) (kf : ¬ y < x → Xw p l e R s m args below meth c G z nL Z (pc + 3) lo st u n kc ks) : Xw p l e R s m args below meth c G z nL Z pc lo (.int y :: .int x :: st) u n kc ks := fun H locs ls hl hH hS => lv_icmp_gt C.1 C.2.1 d ht (fun h => kt h H locs ls hl hH hS) (fun h => kf h H locs ls hl hH hS)
theorem x_icmp_gt_t (C : Cx p s m args c G own cc nL z) {x y : Int32} {off : Int} (tgt : Nat) (d : decode cc pc = .ok (.if_icmp .gt off, 3)) (ht : (pc : Int) + off = (tgt : Int)) (h : y < x) (kt : Xw p l e R s m args below meth c G z nL Z tgt lo st u n kc ks) : Xw p l e R s m args below meth c G z nL Z pc lo (.int y :: .int x :: st) u n kc ks := fun H locs ls hl hH hS => lv_icmp_gt C.1 C.2.1 d ht (fun _ => kt H locs ls hl hH hS) (fun h9 => absurd h (by first | exact h9 | exact fun q => q h9))
theorem x_icmp_gt_f (C : Cx p s m args c G own cc nL z) {x y : Int32} {off : Int} (tgt : Nat) (d : decode cc pc = .ok (.if_icmp .gt off, 3)) (ht : (pc : Int) + off = (tgt : Int)) (h : ¬ y < x) (kf : Xw p l e R s m args below meth c G z nL Z (pc + 3) lo st u n kc ks) : Xw p l e R s m args below meth c G z nL Z pc lo (.int y :: .int x :: st) u n kc ks := fun H locs ls hl hH hS => lv_icmp_gt C.1 C.2.1 d ht (fun h9 => absurd h9 (by first | exact h | exact fun q => q h)) (fun _ => kf H locs ls hl hH hS)
theorem x_if_gt (C : Cx p s m args c G own cc nL z) {x : Int32} {off : Int} (tgt : Nat) (d : decode cc pc = .ok (.ifCond .gt off, 3)) (ht : (pc : Int) + off = (tgt : Int)) (kt : 0 < x → Xw p l e R s m args below meth c G z nL Z tgt lo st u n kc ks) (kf : ¬ 0 < x → Xw p l e R s m args below meth c G z nL Z (pc + 3) lo st u n kc ks) : Xw p l e R s m args below meth c G z nL Z pc lo (.int x :: st) u n kc ks := fun H locs ls hl hH hS => lv_if_gt C.1 C.2.1 d ht (fun h => kt h H locs ls hl hH hS) (fun h => kf h H locs ls hl hH hS)
theorem x_if_gt_t (C : Cx p s m args c G own cc nL z) {x : Int32} {off : Int} (tgt : Nat) (d : decode cc pc = .ok (.ifCond .gt off, 3)) (ht : (pc : Int) + off = (tgt : Int)) (h : 0 < x) (kt : Xw p l e R s m args below meth c G z nL Z tgt lo st u n kc ks) : Xw p l e R s m args below meth c G z nL Z pc lo (.int x :: st) u n kc ks := fun H locs ls hl hH hS => lv_if_gt C.1 C.2.1 d ht (fun _ => kt H locs ls hl hH hS) (fun h9 => absurd h (by first | exact h9 | exact fun q => q h9))
theorem x_if_gt_f (C : Cx p s m args c G own cc nL z) {x : Int32} {off : Int} (tgt : Nat) (d : decode cc pc = .ok (.ifCond .gt off, 3)) (ht : (pc : Int) + off = (tgt : Int)) (h : ¬ 0 < x) (kf : Xw p l e R s m args below meth c G z nL Z (pc + 3) lo st u n kc ks) : Xw p l e R s m args below meth c G z nL Z pc lo (.int x :: st) u n kc ks := fun H locs ls hl hH hS => lv_if_gt C.1 C.2.1 d ht (fun h9 => absurd h9 (by first | exact h | exact fun q => q h)) (fun _ => kf H locs ls hl hH hS)
theorem x_icmp_le (C : Cx p s m args c G own cc nL z) {x y : Int32} {off : Int} (tgt : Nat) (d : decode cc pc = .ok (.if_icmp .le off, 3)) (ht : (pc : Int) + off = (tgt : Int)) (kt : x ≤ y → Xw p l e R s m args below meth c G z nL Z tgt lo st u n kc ks) (kf : ¬ x ≤ y → Xw p l e R s m args below meth c G z nL Z (pc + 3) lo st u n kc ks) : Xw p l e R s m args below meth c G z nL Z pc lo (.int y :: .int x :: st) u n kc ks := fun H locs ls hl hH hS => lv_icmp_le C.1 C.2.1 d ht (fun h => kt h H locs ls hl hH hS) (fun h => kf h H locs ls hl hH hS)
theorem x_icmp_le_t (C : Cx p s m args c G own cc nL z) {x y : Int32} {off : Int} (tgt : Nat) (d : decode cc pc = .ok (.if_icmp .le off, 3)) (ht : (pc : Int) + off = (tgt : Int)) (h : x ≤ y) (kt : Xw p l e R s m args below meth c G z nL Z tgt lo st u n kc ks) : Xw p l e R s m args below meth c G z nL Z pc lo (.int y :: .int x :: st) u n kc ks := fun H locs ls hl hH hS => lv_icmp_le C.1 C.2.1 d ht (fun _ => kt H locs ls hl hH hS) (fun h9 => absurd h (by first | exact h9 | exact fun q => q h9))
theorem x_icmp_le_f (C : Cx p s m args c G own cc nL z) {x y : Int32} {off : Int} (tgt : Nat) (d : decode cc pc = .ok (.if_icmp .le off, 3)) (ht : (pc : Int) + off = (tgt : Int)) (h : ¬ x ≤ y) (kf : Xw p l e R s m args below meth c G z nL Z (pc + 3) lo st u n kc ks) : Xw p l e R s m args below meth c G z nL Z pc lo (.int y :: .int x :: st) u n kc ks := fun H locs ls hl hH hS => lv_icmp_le C.1 C.2.1 d ht (fun h9 => absurd h9 (by first | exact h | exact fun q => q h)) (fun _ => kf H locs ls hl hH hS)
theorem x_if_le (C : Cx p s m args c G own cc nL z) {x : Int32} {off : Int} (tgt : Nat) (d : decode cc pc = .ok (.ifCond .le off, 3)) (ht : (pc : Int) + off = (tgt : Int)) (kt : x ≤ 0 → Xw p l e R s m args below meth c G z nL Z tgt lo st u n kc ks) (kf : ¬ x ≤ 0 → Xw p l e R s m args below meth c G z nL Z (pc + 3) lo st u n kc ks) : Xw p l e R s m args below meth c G z nL Z pc lo (.int x :: st) u n kc ks := fun H locs ls hl hH hS => lv_if_le C.1 C.2.1 d ht (fun h => kt h H locs ls hl hH hS) (fun h => kf h H locs ls hl hH hS)
theorem x_if_le_t (C : Cx p s m args c G own cc nL z) {x : Int32} {off : Int} (tgt : Nat) (d : decode cc pc = .ok (.ifCond .le off, 3)) (ht : (pc : Int) + off = (tgt : Int)) (h : x ≤ 0) (kt : Xw p l e R s m args below meth c G z nL Z tgt lo st u n kc ks) : Xw p l e R s m args below meth c G z nL Z pc lo (.int x :: st) u n kc ks := fun H locs ls hl hH hS => lv_if_le C.1 C.2.1 d ht (fun _ => kt H locs ls hl hH hS) (fun h9 => absurd h (by first | exact h9 | exact fun q => q h9))
theorem x_if_le_f (C : Cx p s m args c G own cc nL z) {x : Int32} {off : Int} (tgt : Nat) (d : decode cc pc = .ok (.ifCond .le off, 3)) (ht : (pc : Int) + off = (tgt : Int)) (h : ¬ x ≤ 0) (kf : Xw p l e R s m args below meth c G z nL Z (pc + 3) lo st u n kc ks) : Xw p l e R s m args below meth c G z nL Z pc lo (.int x :: st) u n kc ks := fun H locs ls hl hH hS => lv_if_le C.1 C.2.1 d ht (fun h9 => absurd h9 (by first | exact h | exact fun q => q h)) (fun _ => kf H locs ls hl hH hS)
theorem x_goto (C : Cx p s m args c G own cc nL z) {off : Int} (tgt : Nat) (d : decode cc pc = .ok (.goto off, 3)) (ht : (pc : Int) + off = (tgt : Int)) (k : Xw p l e R s m args below meth c G z nL Z tgt lo st u n kc ks) : Xw p l e R s m args below meth c G z nL Z pc lo st u n kc ks := fun H locs ls hl hH hS => lv_goto C.1 C.2.1 d ht (k H locs ls hl hH hS)
theorem x_mv {lo2 : List (Nat × Value)} (ks' : List Nat) (hl : lv_pick lo ks' = lo2) (k : Xw p l e R s m args below meth c G z nL Z pc lo2 st u n kc ks) : Xw p l e R s m args below meth c G z nL Z pc lo st u n kc ks := fun H locs ls hL hH hS => k H locs ls (lv_sub hL ks' hl) hH hS
theorem x_heap {u2 : HpT} (hu : u = u2) (k : Xw p l e R s m args below meth c G z nL Z pc lo st u2 n kc ks) : Xw p l e R s m args below meth c G z nL Z pc lo st u n kc ks := hu ▸ k
theorem x_tableIn (C : Cx p s m args c G own cc nL z) {dflt lo1 hi : Int} {offs : Array Int} {len : Nat} {x : Int32} {off : Int} (tgt : Nat) (d : decode cc pc = .ok (.tableswitch dflt lo1 hi offs, len)) (h1 : ¬ x.toInt < lo1) (h2 : ¬ hi < x.toInt) (ho : offs[(x.toInt - lo1).toNat]? = some off) (ht : (pc : Int) + off = (tgt : Int))
    (k : Xw p l e R s m args below meth c G z nL Z tgt lo st u n kc ks) : Xw p l e R s m args below meth c G z nL Z pc lo (.int x :: st) u n kc ks := fun H locs ls hl hH hS => lv_tableIn C.1 C.2.1 d h1 h2 ho ht (k H locs ls hl hH hS)
theorem x_tableOut (C : Cx p s m args c G own cc nL z) {dflt lo1 hi : Int} {offs : Array Int} {len : Nat} {x : Int32} (tgt : Nat) (d : decode cc pc = .ok (.tableswitch dflt lo1 hi offs, len)) (h : x.toInt < lo1 ∨ hi < x.toInt) (ht : (pc : Int) + dflt = (tgt : Int))
    (k : Xw p l e R s m args below meth c G z nL Z tgt lo st u n kc ks) : Xw p l e R s m args below meth c G z nL Z pc lo (.int x :: st) u n kc ks := fun H locs ls hl hH hS => lv_tableOut C.1 C.2.1 d h ht (k H locs ls hl hH hS)
theorem x_ldc (C : Cx p s m args c G own cc nL z) {index : Nat} {v : Int32} (hw : Cond.constant own index v ∈ lw_good) (d : decode cc pc = .ok (.ldc index, 2)) (k : Xw p l e R s m args below meth c G z nL Z (pc + 2) lo (.int v :: st) u n kc ks) : Xw p l e R s m args below meth c G z nL Z pc lo st u n kc ks := fun H locs ls hl hH hS => lv_ldc C.1 C.2.1 C.2.2.2.1 (C.2.2.2.2.1 _ hw) d (k H locs ls hl hH hS)
theorem x_ldcw (C : Cx p s m args c G own cc nL z) {index : Nat} {v : Int32} (hw : Cond.constant own index v ∈ lw_good) (d : decode cc pc = .ok (.ldc_w index, 3)) (k : Xw p l e R s m args below meth c G z nL Z (pc + 3) lo (.int v :: st) u n kc ks) : Xw p l e R s m args below meth c G z nL Z pc lo st u n kc ks := fun H locs ls hl hH hS => lv_ldcw C.1 C.2.1 C.2.2.2.1 (C.2.2.2.2.1 _ hw) d (k H locs ls hl hH hS)
theorem x_ldc2 (C : Cx p s m args c G own cc nL z) {index : Nat} {v : Int64} (hw : Cond.constantLong own index v ∈ lw_good) (d : decode cc pc = .ok (.ldc2_w index, 3)) (k : Xw p l e R s m args below meth c G z nL Z (pc + 3) lo (.long v :: st) u n kc ks) : Xw p l e R s m args below meth c G z nL Z pc lo st u n kc ks := fun H locs ls hl hH hS => lv_ldc2 C.1 C.2.1 C.2.2.2.1 (C.2.2.2.2.1 _ hw) d (k H locs ls hl hH hS)
/-- a computed number gets a name -/
theorem x_top {v : Int32} (k : ∀ w : Int32, w = v → Xw p l e R s m args below meth c G z nL Z pc lo (.int w :: st) u n kc ks) : Xw p l e R s m args below meth c G z nL Z pc lo (.int v :: st) u n kc ks := k v rfl
theorem x_eqi {v w : Int32} (h : v = w) (k : Xw p l e R s m args below meth c G z nL Z pc lo (.int w :: st) u n kc ks) : Xw p l e R s m args below meth c G z nL Z pc lo (.int v :: st) u n kc ks := h ▸ k
theorem x_eql {v w : Int64} (h : v = w) (k : Xw p l e R s m args below meth c G z nL Z pc lo (.long w :: st) u n kc ks) : Xw p l e R s m args below meth c G z nL Z pc lo (.long v :: st) u n kc ks := h ▸ k
/-- getfield -/
theorem x_get (C : Cx p s m args c G own cc nL z) {ref C' : String} {T : u_T} {N ci index : Nat} (hin : ∀ w ∈ u_ws C' T N, w ∈ lw_good) (hc : vwCl[ci]? = some (C', T, N)) (k : Nat) (hk : k < N) (hw : Cond.fieldLink own index ref (T k).2.1 (T k).2.2.1 ∈ lw_good) (href : (T k).1 = ref) {a : Nat} {fs : List Value} {v : Value} (hu : u a = some (.inr (ci, fs))) (hv : fs[k]? = some v) (d : decode cc pc = .ok (.getfield index, 3))
    (kk : Xw p l e R s m args below meth c G z nL Z (pc + 3) lo (v :: st) u n kc ks) : Xw p l e R s m args below meth c G z nL Z pc lo (.ref (z + a) :: st) u n kc ks :=
  fun H locs ls hl hH hS => va_get (ws := [(z + a, .inr (ci, fs))]) C.1 C.2.1 C.2.2.2.2.1 hin C.2.2.2.1 C.2.2.2.2.2.1.1 (hH.one hu) 0 rfl hc k hk (C.2.2.2.2.1 _ hw) (fun _ h9 => by rw [← href]; exact h9) hv d (kk H locs ls hl hH hS)
/-- putfield -/
theorem x_put (C : Cx p s m args c G own cc nL z) {ref C' : String} {T : u_T} {N ci index : Nat} (hin : ∀ w ∈ u_ws C' T N, w ∈ lw_good) (ty0 : Nat → FieldType) (hty : ∀ k, k < N → parseFieldDescriptor (T k).2.2.1 = some (ty0 k)) (hnm : ∀ a, a < N → ∀ b, b < N → a ≠ b → (T a).2.1 ≠ (T b).2.1) (hc : vwCl[ci]? = some (C', T, N)) (k : Nat) (hk : k < N) (hw : Cond.fieldLink own index ref (T k).2.1 (T k).2.2.1 ∈ lw_good) (href : (T k).1 = ref) (hfin : (T k).2.2.2 = false)
    {a : Nat} {fs : List Value} {v : Value} (hn : narrow (ty0 k) v = v) (hfit : fits (ty0 k) v = true) (hu : u a = some (.inr (ci, fs))) (hl : k < fs.length) (d : decode cc pc = .ok (.putfield index, 3))
    (kk : Xw p l e R s m args below meth c G z nL Z (pc + 3) lo st (hup u a (.inr (ci, fs.set k v))) n kc ks) : Xw p l e R s m args below meth c G z nL Z pc lo (v :: .ref (z + a) :: st) u n kc ks := by
  intro H locs ls hL hH hS0
  obtain ⟨hexec, hb, -, hown, hts, ⟨hK, -⟩, hzs⟩ := C
  have hap := va_apart (own := own) hts hin ty0 hty hnm hK hc
  obtain ⟨r, h1, cell, q1, q2, q3, q4⟩ := hH.2 a _ hu
  have hr : r = (C', T, N) := Option.some.inj (h1.symm.trans hc)
  subst hr
  obtain ⟨hS, hfc, kC, hkC, hkind⟩ := hK.1 ci _ hc
  obtain ⟨cf, kf, fi, f, hi, hsl⟩ := hS k hk
  have hlay := hts _ (hin _ (u_in_lay hk))
  unfold u_lay at hlay
  rw [if_neg (by rw [hfin]; decide)] at hlay
  have hst := (u_facts hfc hkC (u_lays hts hin hk) hi).1
  have h6 := u_store hfc hkC hkind hlay hi (hty k hk) hn hfit
  refine W.putK hexec hb (f := f) ⟨hown, hts _ hw, ⟨_, _, _, by rw [← href]; exact hi⟩, hst⟩ (by rw [q2]; exact h6) q1 q3 (by rw [hsl]; exact k2_hasslot (q4 k hk)) rfl rfl d fun H' e1 e2 e3 => ?_
  rw [hsl] at e1 ⊢
  exact kk H' _ ls hL (hH.upd e2 e3 ⟨_, hc, t_OB.to (V := updV (vp_V fs) k v) ⟨_, e1, q2, q3, t_set q4 hap hk v⟩ (fun j _ => vp_updV_set hl v j)⟩) (hS0.put e2 e3 (by show z ≤ z + a; omega))
theorem x_putF (C : Cx p s m args c G own cc nL z) {ref C' : String} {T : u_T} {N ci index : Nat} (hin : ∀ w ∈ u_ws C' T N, w ∈ lw_good) (ty0 : Nat → FieldType) (hty : ∀ k, k < N → parseFieldDescriptor (T k).2.2.1 = some (ty0 k)) (hnm : ∀ a, a < N → ∀ b, b < N → a ≠ b → (T a).2.1 ≠ (T b).2.1) (hc : vwCl[ci]? = some (C', T, N)) (k : Nat) (hk : k < N) (hw : Cond.fieldLink own index ref (T k).2.1 (T k).2.2.1 ∈ lw_good) (href : (T k).1 = ref) (hfin : (T k).2.2.2 = true) (hin2 : meth.name = "<init>") (hdecl : (T k).1 = own)
    {a : Nat} {fs : List Value} {v : Value} (hn : narrow (ty0 k) v = v) (hfit : fits (ty0 k) v = true) (hu : u a = some (.inr (ci, fs))) (hl : k < fs.length) (d : decode cc pc = .ok (.putfield index, 3))
    (kk : Xw p l e R s m args below meth c G z nL Z (pc + 3) lo st (hup u a (.inr (ci, fs.set k v))) n kc ks) : Xw p l e R s m args below meth c G z nL Z pc lo (v :: .ref (z + a) :: st) u n kc ks := by
  intro H locs ls hL hH hS0
  obtain ⟨hexec, hb, -, hown, hts, ⟨hK, -⟩, hzs⟩ := C
  have hap := va_apart (own := own) hts hin ty0 hty hnm hK hc
  obtain ⟨r, h1, cell, q1, q2, q3, q4⟩ := hH.2 a _ hu
  have hr : r = (C', T, N) := Option.some.inj (h1.symm.trans hc)
  subst hr
  obtain ⟨hS, hfc, kC, hkC, hkind⟩ := hK.1 ci _ hc
  obtain ⟨cf, kf, fi, f, hi, hsl⟩ := hS k hk
  have hlay := hts _ (hin _ (u_in_lay hk))
  unfold u_lay at hlay
  rw [if_pos hfin] at hlay
  have hst := (u_facts hfc hkC (u_lays hts hin hk) hi).1
  have hcf : m.cls = cf := by
    obtain ⟨_, _, c', _, _, _, -, -, hf', -, -, -, hown2, -⟩ := Cond.laysFinal_spec hlay
    have e1 : c' = cf := by have := hi.symm.trans hf'; simp at this; exact this.1.symm
    rw [hdecl] at hown2
    rw [← e1]; exact Option.some.inj (hown.symm.trans hown2)
  have h6 := u_fits hfc hkC hkind (Or.inr hlay) hi (hty k hk) hn hfit
  refine W.putFinK hexec hb hown (hts _ hw) (by rw [← href]; exact hi) hst hcf hin2 (by rw [q2]; exact h6) q1 q3 (by rw [hsl]; exact k2_hasslot (q4 k hk)) rfl rfl d fun H' e1 e2 e3 => ?_
  rw [hsl] at e1 ⊢
  exact kk H' _ ls hL (hH.upd e2 e3 ⟨_, hc, t_OB.to (V := updV (vp_V fs) k v) ⟨_, e1, q2, q3, t_set q4 hap hk v⟩ (fun j _ => vp_updV_set hl v j)⟩) (hS0.put e2 e3 (by show z ≤ z + a; omega))
/-- arrays -/
theorem x_iald (C : Cx p s m args c G own cc nL z) {a N : Nat} {f : Nat → Int32} {i : Int32} (hu : u a = some (aI G N f)) (hin : vp_in i N) (d : decode cc pc = .ok (.iaload, 1))
    (kk : Xw p l e R s m args below meth c G z nL Z (pc + 1) lo (.int (f i.toNatClampNeg) :: st) u n kc ks) : Xw p l e R s m args below meth c G z nL Z pc lo (.int i :: .ref (z + a) :: st) u n kc ks :=
  fun H locs ls hl hH hS => va_iald (ws := [(z + a, aI G N f)]) C.1 C.2.1 C.2.2.2.2.2.1.1 (hH.one hu) 0 0 rfl rfl hin d (kk H locs ls hl hH hS)
theorem x_zald (C : Cx p s m args c G own cc nL z) {a N : Nat} {f : Nat → Int32} {i : Int32} (hu : u a = some (aZ G N f)) (hin : vp_in i N) (d : decode cc pc = .ok (.baload, 1))
    (kk : Xw p l e R s m args below meth c G z nL Z (pc + 1) lo (.int (f i.toNatClampNeg) :: st) u n kc ks) : Xw p l e R s m args below meth c G z nL Z pc lo (.int i :: .ref (z + a) :: st) u n kc ks :=
  fun H locs ls hl hH hS => va_zald (ws := [(z + a, aZ G N f)]) C.1 C.2.1 C.2.2.2.2.2.1.1 (hH.one hu) 0 1 rfl rfl hin d (kk H locs ls hl hH hS)
theorem x_lald (C : Cx p s m args c G own cc nL z) {a N : Nat} {f : Nat → Int64} {i : Int32} (hu : u a = some (aL G N f)) (hin : vp_in i N) (d : decode cc pc = .ok (.laload, 1))
    (kk : Xw p l e R s m args below meth c G z nL Z (pc + 1) lo (.long (f i.toNatClampNeg) :: st) u n kc ks) : Xw p l e R s m args below meth c G z nL Z pc lo (.int i :: .ref (z + a) :: st) u n kc ks :=
  fun H locs ls hl hH hS => va_lald (ws := [(z + a, aL G N f)]) C.1 C.2.1 C.2.2.2.2.2.1.1 (hH.one hu) 0 2 rfl rfl hin d (kk H locs ls hl hH hS)
theorem x_aaldE (C : Cx p s m args c G own cc nL z) {a N y : Nat} {f : Nat → Option Nat} {i : Int32} (hu : u a = some (aE G N f)) (hin : vp_in i N) (hy : f i.toNatClampNeg = some y) (d : decode cc pc = .ok (.aaload, 1))
    (kk : Xw p l e R s m args below meth c G z nL Z (pc + 1) lo (.ref y :: st) u n kc ks) : Xw p l e R s m args below meth c G z nL Z pc lo (.int i :: .ref (z + a) :: st) u n kc ks :=
  fun H locs ls hl hH hS => va_aldq (ws := [(z + a, aE G N f)]) C.1 C.2.1 C.2.2.2.2.2.1.1 (hH.one hu) 0 3 rfl rfl hin d (by rw [hy]; exact kk H locs ls hl hH hS)
theorem x_aaldM (C : Cx p s m args c G own cc nL z) {a N y : Nat} {f : Nat → Option Nat} {i : Int32} (hu : u a = some (aM G N f)) (hin : vp_in i N) (hy : f i.toNatClampNeg = some y) (d : decode cc pc = .ok (.aaload, 1))
    (kk : Xw p l e R s m args below meth c G z nL Z (pc + 1) lo (.ref y :: st) u n kc ks) : Xw p l e R s m args below meth c G z nL Z pc lo (.int i :: .ref (z + a) :: st) u n kc ks :=
  fun H locs ls hl hH hS => va_aldq (ws := [(z + a, aM G N f)]) C.1 C.2.1 C.2.2.2.2.2.1.1 (hH.one hu) 0 4 rfl rfl hin d (by rw [hy]; exact kk H locs ls hl hH hS)
theorem x_alen (C : Cx p s m args c G own cc nL z) (t0 : Nat) {a : Nat} {cA : ClassId} {x : vp_A} {ty : FieldType} (hu : u a = some (.inl (cA, x))) (ht : (gtys G)[t0]? = some (cA, ty)) {v : Int32} (hv : Int32.ofNat x.1 = v) (d : decode cc pc = .ok (.arraylength, 1))
    (kk : Xw p l e R s m args below meth c G z nL Z (pc + 1) lo (.int v :: st) u n kc ks) : Xw p l e R s m args below meth c G z nL Z pc lo (.ref (z + a) :: st) u n kc ks :=
  fun H locs ls hl hH hS => va_alen (ws := [(z + a, .inl (cA, x))]) C.1 C.2.1 C.2.2.2.2.2.1.1 (hH.one hu) 0 t0 rfl ht hv d (kk H locs ls hl hH hS)
theorem x_iast (C : Cx p s m args c G own cc nL z) {a N : Nat} {f : Nat → Int32} {i v : Int32} (hu : u a = some (aI G N f)) (hin : vp_in i N) (d : decode cc pc = .ok (.iastore, 1))
    (kk : Xw p l e R s m args below meth c G z nL Z (pc + 1) lo st (hup u a (aI G N (upd f i.toNatClampNeg v))) n kc ks) : Xw p l e R s m args below meth c G z nL Z pc lo (.int v :: .int i :: .ref (z + a) :: st) u n kc ks := by
  intro H locs ls hL hH hS
  refine W.iast C.1 C.2.1 (hH.2 a _ hu) ((C.2.2.2.2.2.1.1.2 0 (G.2 0, .int) rfl).1 N (fun j => .int (f j))) (fun q => by cases q) (by show ¬ (i < 0 ∨ (arrV _ _ _).slots.size ≤ _); rw [arrV_size]; exact hin) rfl rfl d fun H1 e1 hz oq => ?_
  refine kk H1 _ ls hL (hH.upd hz oq ?_) (hS.put hz oq (by show z ≤ z + a; omega))
  show H1[z + a]? = some (vp_cell _ _)
  rw [e1]
  rw [vp_cell_i, vp_cell_i, arrV_store]
  congr 2
  funext q
  by_cases hq : q = i.toNatClampNeg
  · subst hq
    simp [updV, upd]
  · simp [updV, upd, hq]
theorem x_zast (C : Cx p s m args c G own cc nL z) {a N : Nat} {f : Nat → Int32} {i v : Int32} (hu : u a = some (aZ G N f)) (hin : vp_in i N) (d : decode cc pc = .ok (.bastore, 1))
    (kk : Xw p l e R s m args below meth c G z nL Z (pc + 1) lo st (hup u a (aZ G N (upd f i.toNatClampNeg (vp_nar .boolean v)))) n kc ks) : Xw p l e R s m args below meth c G z nL Z pc lo (.int v :: .int i :: .ref (z + a) :: st) u n kc ks := by
  intro H locs ls hL hH hS
  refine W.zast C.1 C.2.1 (hH.2 a _ hu) ((C.2.2.2.2.2.1.1.2 1 (G.2 1, .boolean) rfl).1 N (fun j => .int (f j))) (fun q => by cases q) (by show ¬ (i < 0 ∨ (arrV _ _ _).slots.size ≤ _); rw [arrV_size]; exact hin) rfl rfl d fun H1 e1 hz oq => ?_
  refine kk H1 _ ls hL (hH.upd hz oq ?_) (hS.put hz oq (by show z ≤ z + a; omega))
  show H1[z + a]? = some (vp_cell _ _)
  rw [e1]
  rw [vp_cell_i, vp_cell_i, arrV_store]
  congr 2
  funext q
  by_cases hq : q = i.toNatClampNeg
  · subst hq
    simp [updV, upd, vp_nar]
    try rfl
  · simp [updV, upd, hq]
theorem x_last (C : Cx p s m args c G own cc nL z) {a N : Nat} {f : Nat → Int64} {i : Int32} {v : Int64} (hu : u a = some (aL G N f)) (hin : vp_in i N) (d : decode cc pc = .ok (.lastore, 1))
    (kk : Xw p l e R s m args below meth c G z nL Z (pc + 1) lo st (hup u a (aL G N (vp_updL f i.toNatClampNeg v))) n kc ks) : Xw p l e R s m args below meth c G z nL Z pc lo (.long v :: .int i :: .ref (z + a) :: st) u n kc ks := by
  intro H locs ls hL hH hS
  refine W.last C.1 C.2.1 (hH.2 a _ hu) ((C.2.2.2.2.2.1.1.2 2 (G.2 2, .long) rfl).1 N (fun j => .long (f j))) (fun q => by cases q) (by show ¬ (i < 0 ∨ (arrV _ _ _).slots.size ≤ _); rw [arrV_size]; exact hin) rfl rfl d fun H1 e1 hz oq => ?_
  refine kk H1 _ ls hL (hH.upd hz oq ?_) (hS.put hz oq (by show z ≤ z + a; omega))
  show H1[z + a]? = some (vp_cell _ _)
  rw [e1]
  rw [vp_cell_l, vp_cell_l, arrV_store]
  congr 2
  funext q
  by_cases hq : q = i.toNatClampNeg
  · subst hq
    simp [updV, vp_updL]
  · simp [updV, vp_updL, hq]
theorem x_iret (C : Cx p s m args c G own cc nL z) {mc ms : Nat} {v : Int32} {r : Option Value} {u' : HpT} {n' : Nat} (hr : meth.sig.returnType = some .int) (hlk : meth.locks = false) (h1 : kc ≤ mc) (h2 : ks ≤ ms) (d : decode cc pc = .ok (.ireturn, 1)) (hv : some (Value.int v) = r) (hu : u = u') (hn : n = n') : Xw p l e R s m args below meth c G z nL (MQ below (Qm G z r u' n') args s mc ms (zA z)) pc lo [.int v] u n kc ks := by
  intro H locs ls hL hH hS
  subst hv; subst hu; subst hn
  refine W.widen h1 h2 ?_
  exact W.iret C.1 C.2.1 hr (fun t ht hW => ⟨⟨rfl, by rw [ht]; exact hH⟩, hS.F ht⟩) hS.2.2 d hlk
theorem x_zret (C : Cx p s m args c G own cc nL z) {mc ms : Nat} {v : Int32} {r : Option Value} {u' : HpT} {n' : Nat} (hr : meth.sig.returnType = some .boolean) (hlk : meth.locks = false) (h1 : kc ≤ mc) (h2 : ks ≤ ms) (d : decode cc pc = .ok (.ireturn, 1)) (hb : narrow .boolean (.int v) = .int v) (hv : some (Value.int v) = r) (hu : u = u') (hn : n = n') : Xw p l e R s m args below meth c G z nL (MQ below (Qm G z r u' n') args s mc ms (zA z)) pc lo [.int v] u n kc ks := by
  intro H locs ls hL hH hS
  subst hv; subst hu; subst hn
  refine W.widen h1 h2 ?_
  exact W.zret C.1 C.2.1 hr hb (fun t ht hW => ⟨⟨rfl, by rw [ht]; exact hH⟩, hS.F ht⟩) hS.2.2 d hlk
theorem x_vret (C : Cx p s m args c G own cc nL z) {mc ms : Nat} {r : Option Value} {u' : HpT} {n' : Nat} (hr : meth.sig.returnType = none) (hlk : meth.locks = false) (h1 : kc ≤ mc) (h2 : ks ≤ ms) (d : decode cc pc = .ok (.return_, 1)) (hv : none = r) (hu : u = u') (hn : n = n') : Xw p l e R s m args below meth c G z nL (MQ below (Qm G z r u' n') args s mc ms (zA z)) pc lo [] u n kc ks := by
  intro H locs ls hL hH hS
  subst hv; subst hu; subst hn
  refine W.widen h1 h2 ?_
  exact W.vret C.1 C.2.1 hr (fun t ht hW => ⟨⟨rfl, by rw [ht]; exact hH⟩, hS.F ht⟩) hS.2.2 d hlk
end XR
theorem Hd.grow {G : GT} {z n : Nat} {u : HpT} {q : va_E} {H H1 : Heap} (h : Hd G z u n H) (hz : H1.size = H.size + 1) (ho : ∀ x : Nat, x < H.size → H1[x]? = H[x]?) (hq : va_at G.1 vwCl (z + n, q) H1) : Hd G z (hup u n q) (n + 1) H1 := by
  refine ⟨by rw [hz, h.1]; omega, fun k e hk => ?_⟩
  by_cases hka : k = n
  · subst hka
    rw [hup_s] at hk
    cases hk
    exact hq
  · rw [hup_n hka] at hk
    have h1 := h.2 k e hk
    exact h1.kept (ho _ h1.lt)
theorem zA_push {z : Nat} {H0 H H1 : Heap} {locs : List Loc} (h : va_S (zA z) H0 H locs) (hz : H1.size = H.size + 1) (ho : ∀ x : Nat, x < H.size → H1[x]? = H[x]?) : va_S (zA z) H0 H1 locs :=
  ⟨Nat.le_trans h.1 (by omega), fun x h1 h2 => (ho x (Nat.lt_of_lt_of_le h1 h.1)).trans (h.2.1 x h1 h2), h.2.2⟩
section XR2
variable {p : Program} {l : Launch} {e : Env} {R : Room} {s : State} {m : MethodId} {args : Array Value} {below : List Frame} {meth : Method} {c : Code} {G : GT} {z nL : Nat} {Z : State → Prop} {pc : Nat} {lo : List (Nat × Value)} {st : List Value} {u : HpT} {n kc ks : Nat} {own : String} {cc : ByteArray}
theorem x_new (C : Cx p s m args c G own cc nL z) {C' : String} {T : u_T} {N ci index : Nat} (hin : ∀ w ∈ u_ws C' T N, w ∈ lw_good) (ty0 : Nat → FieldType) (hty : ∀ k, k < N → parseFieldDescriptor (T k).2.2.1 = some (ty0 k)) (hc : vwCl[ci]? = some (C', T, N)) (hwl : Cond.classLink own index C' ∈ lw_good) (hwi : Cond.instantiable C' N ∈ lw_good) (hwn : Cond.initialized C' ∈ lw_good)
    (fs : List Value) (hfs : ∀ j, j < N → defaultValue (ty0 j) = vp_V fs j) (hcells : kc + 1 ≤ R.cells) (hslots : ks + N ≤ R.slots) (d : decode cc pc = .ok (.new index, 3))
    (kk : Xw p l e R s m args below meth c G z nL Z (pc + 3) lo (.ref (z + n) :: st) (hup u n (.inr (ci, fs))) (n + 1) (kc + 1) (ks + N)) : Xw p l e R s m args below meth c G z nL Z pc lo st u n kc ks := by
  intro H locs ls hL hH hS
  obtain ⟨hexec, hb, -, hown, hts, ⟨hK, -⟩, hzs⟩ := C
  have hKn := hK.1 ci _ hc
  refine W.newcK hexec hb hown (hts _ hwl) (hts _ hwi) (hts _ hwn) rfl d hcells hslots hKn.2.1 hH.1 fun H1 kC hkC e1 z1 o1 => ?_
  have z1' : H1.size = H.size + 1 := by rw [z1, hH.1]
  have o1' : ∀ x : Nat, x < H.size → H1[x]? = H[x]? := fun x hx => o1 x (by rw [← hH.1]; exact hx)
  exact kk H1 locs ls hL (hH.grow z1' o1' ⟨_, hc, (u_born ty0 hts hin hKn hkC e1 hty).to hfs⟩) (zA_push hS z1' o1')
theorem x_newI (C : Cx p s m args c G own cc nL z) (hw : Cond.arrayClass .int ∈ lw_good) {i : Int32} (N : Nat) (hn : ¬ i < 0) (hN : i.toNatClampNeg = N) (hbytes : N * componentBytes .int ≤ 536870912) (hcells : kc + 1 ≤ R.cells) (hslots : ks + N ≤ R.slots) (d : decode cc pc = .ok (.newarray .int, 2))
    (kk : Xw p l e R s m args below meth c G z nL Z (pc + 2) lo (.ref (z + n) :: st) (hup u n (aI G N (fun _ => 0))) (n + 1) (kc + 1) (ks + N)) : Xw p l e R s m args below meth c G z nL Z pc lo (.int i :: st) u n kc ks := by
  intro H locs ls hL hH hS
  obtain ⟨hexec, hb, -, hown, hts, ⟨hK, -⟩, hzs⟩ := C
  refine va_newaK (atype := .int) hexec hb (hts _ hw) rfl d rfl hn hN hbytes hcells hslots hH.1 fun H1 cA e1 z1 o1 hAr hNm => ?_
  have hcA : G.2 0 = cA := Option.some.inj ((hK.2 0 (G.2 0, .int) rfl).2.symm.trans hNm)
  subst hcA
  have z1' : H1.size = H.size + 1 := by rw [z1, hH.1]
  have o1' : ∀ x : Nat, x < H.size → H1[x]? = H[x]? := fun x hx => o1 x (by rw [← hH.1]; exact hx)
  refine kk H1 locs ls hL (hH.grow z1' o1' ?_) (zA_push hS z1' o1')
  show H1[z + n]? = some (vp_cell _ _)
  rw [e1, vp_cell_i]
  rfl
theorem x_newZ (C : Cx p s m args c G own cc nL z) (hw : Cond.arrayClass .boolean ∈ lw_good) {i : Int32} (N : Nat) (hn : ¬ i < 0) (hN : i.toNatClampNeg = N) (hbytes : N * componentBytes .boolean ≤ 536870912) (hcells : kc + 1 ≤ R.cells) (hslots : ks + N ≤ R.slots) (d : decode cc pc = .ok (.newarray .boolean, 2))
    (kk : Xw p l e R s m args below meth c G z nL Z (pc + 2) lo (.ref (z + n) :: st) (hup u n (aZ G N (fun _ => 0))) (n + 1) (kc + 1) (ks + N)) : Xw p l e R s m args below meth c G z nL Z pc lo (.int i :: st) u n kc ks := by
  intro H locs ls hL hH hS
  obtain ⟨hexec, hb, -, hown, hts, ⟨hK, -⟩, hzs⟩ := C
  refine va_newaK (atype := .boolean) hexec hb (hts _ hw) rfl d rfl hn hN hbytes hcells hslots hH.1 fun H1 cA e1 z1 o1 hAr hNm => ?_
  have hcA : G.2 1 = cA := Option.some.inj ((hK.2 1 (G.2 1, .boolean) rfl).2.symm.trans hNm)
  subst hcA
  have z1' : H1.size = H.size + 1 := by rw [z1, hH.1]
  have o1' : ∀ x : Nat, x < H.size → H1[x]? = H[x]? := fun x hx => o1 x (by rw [← hH.1]; exact hx)
  refine kk H1 locs ls hL (hH.grow z1' o1' ?_) (zA_push hS z1' o1')
  show H1[z + n]? = some (vp_cell _ _)
  rw [e1, vp_cell_i]
  rfl
theorem x_newL (C : Cx p s m args c G own cc nL z) (hw : Cond.arrayClass .long ∈ lw_good) {i : Int32} (N : Nat) (hn : ¬ i < 0) (hN : i.toNatClampNeg = N) (hbytes : N * componentBytes .long ≤ 536870912) (hcells : kc + 1 ≤ R.cells) (hslots : ks + N ≤ R.slots) (d : decode cc pc = .ok (.newarray .long, 2))
    (kk : Xw p l e R s m args below meth c G z nL Z (pc + 2) lo (.ref (z + n) :: st) (hup u n (aL G N (fun _ => 0))) (n + 1) (kc + 1) (ks + N)) : Xw p l e R s m args below meth c G z nL Z pc lo (.int i :: st) u n kc ks := by
  intro H locs ls hL hH hS
  obtain ⟨hexec, hb, -, hown, hts, ⟨hK, -⟩, hzs⟩ := C
  refine va_newaK (atype := .long) hexec hb (hts _ hw) rfl d rfl hn hN hbytes hcells hslots hH.1 fun H1 cA e1 z1 o1 hAr hNm => ?_
  have hcA : G.2 2 = cA := Option.some.inj ((hK.2 2 (G.2 2, .long) rfl).2.symm.trans hNm)
  subst hcA
  have z1' : H1.size = H.size + 1 := by rw [z1, hH.1]
  have o1' : ∀ x : Nat, x < H.size → H1[x]? = H[x]? := fun x hx => o1 x (by rw [← hH.1]; exact hx)
  refine kk H1 locs ls hL (hH.grow z1' o1' ?_) (zA_push hS z1' o1')
  show H1[z + n]? = some (vp_cell _ _)
  rw [e1, vp_cell_l]
  rfl
theorem x_anew0 (C : Cx p s m args c G own cc nL z) {C' : String} {index : Nat} (t0 : Nat) {cA0 : ClassId} (ht : (gtys G)[t0]? = some (cA0, .object C')) (hao : va_AO C' s) (hwl : Cond.classLink own index C' ∈ lw_good) {i : Int32} (N : Nat) (hn : ¬ i < 0) (hN : i.toNatClampNeg = N) (hbytes : N * 4 ≤ 536870912) (hcells : kc + 1 ≤ R.cells) (hslots : ks + N ≤ R.slots) (d : decode cc pc = .ok (.anewarray index, 3))
    (kk : Xw p l e R s m args below meth c G z nL Z (pc + 3) lo (.ref (z + n) :: st) (hup u n (.inl (cA0, N, .inr (.inr (.inr (.inr (fun _ => none))))))) (n + 1) (kc + 1) (ks + N)) : Xw p l e R s m args below meth c G z nL Z pc lo (.int i :: st) u n kc ks := by
  intro H locs ls hL hH hS
  obtain ⟨hexec, hb, -, hown, hts, ⟨hK, -⟩, hzs⟩ := C
  subst hN
  refine W.anew hexec hb hown (hts _ hwl) (va_AO.use hao) rfl d rfl hn hbytes hcells hslots fun cA kA comp f1 f2 f3 f4 => ?_
  obtain ⟨kA', comp', g1, g2, g3, g4⟩ := (hK.2 t0 _ ht).2
  have hcA : cA0 = cA := Option.some.inj (g4.symm.trans f1)
  subst hcA
  generalize hH1 : H.push ({ cls := cA0, slots := Array.replicate i.toNatClampNeg .null, vm := .none } : Cell) = H1
  have z1 : H1.size = H.size + 1 := by rw [← hH1, Array.size_push]
  have e1 : H1[H.size]? = some (arrV cA0 i.toNatClampNeg (fun _ => .null)) := by rw [← hH1, Array.getElem?_push_size, ← arrV_new]
  have o1 : ∀ q : Nat, q < H.size → H1[q]? = H[q]? := fun q hq => by rw [← hH1, Array.getElem?_push, if_neg (Nat.ne_of_lt hq)]
  rw [hH.1]
  refine kk H1 locs ls hL (hH.grow z1 o1 ?_) (zA_push hS z1 o1)
  show H1[z + n]? = some (vp_cell _ _)
  rw [vp_cell_q, ← hH.1]
  exact e1
theorem x_aast (C : Cx p s m args c G own cc nL z) (t0 ci : Nat) {a b N : Nat} {cA : ClassId} {r : vw_C} {vs : List Value} {f : Nat → Option Nat} {i : Int32} (ht : (gtys G)[t0]? = some (cA, .object r.1)) (hu : u a = some (.inl (cA, N, .inr (.inr (.inr (.inr f)))))) (hb : u b = some (.inr (ci, vs))) (hc : vwCl[ci]? = some r) (hin : vp_in i N) (d : decode cc pc = .ok (.aastore, 1))
    (kk : Xw p l e R s m args below meth c G z nL Z (pc + 1) lo st (hup u a (.inl (cA, N, .inr (.inr (.inr (.inr (va_up f i.toNatClampNeg (some (z + b)))))))) ) n kc ks) : Xw p l e R s m args below meth c G z nL Z pc lo (.ref (z + b) :: .int i :: .ref (z + a) :: st) u n kc ks := by
  intro H locs ls hL hH hS
  obtain ⟨hexec, hbc, -, hown, hts, ⟨hK, -⟩, hzs⟩ := C
  have hlt : i.toNatClampNeg < N := Nat.not_le.mp fun q => hin (Or.inr q)
  have h0 : ¬ i < 0 := fun q => hin (Or.inl q)
  obtain ⟨r', hr', cellV, g1, g2, g3, -⟩ := hH.2 b _ hb
  have hcls := (hK.1 ci r hc).2
  obtain ⟨kA, comp, k1, k2, k3, -⟩ := (hK.2 t0 _ ht).2
  have hcomp : comp = G.1.1 ci := Option.some.inj (k3.symm.trans hcls.1)
  subst hcomp
  obtain ⟨kC, hkC, -⟩ := hcls.2
  refine W.aast hexec hbc (hH.2 a _ hu) (fun q h => by cases h) (fun h => by cases h) k1 k2 rfl hkC ⟨h0, by show _ < (arrV _ _ _).slots.size; rw [arrV_size]; exact hlt⟩ g1 (fun q h => by rw [g3] at h; cases h) (by rw [g2]; exact hkC) (by rw [g2]; exact va_assign hcls) rfl rfl d fun H1 e1 hz oq => ?_
  refine kk H1 _ ls hL (hH.upd hz oq ?_) (hS.put hz oq (by show z ≤ z + a; omega))
  show H1[z + a]? = some (vp_cell _ _)
  rw [e1]
  rw [vp_cell_q, vp_cell_q, arrV_store]
  congr 2
  funext q
  by_cases hq : q = i.toNatClampNeg
  · subst hq
    simp [updV, va_up, va_rf]
  · simp [updV, va_up, hq]
theorem x_objInit (C : Cx p s m args c G own cc nL z) {idx : Nat} (hw1 : Cond.methodLink own idx Lib.objectInit ∈ lw_good) (hw2 : Cond.instanceMethod Lib.objectInit ∈ lw_good) (hw3 : Cond.code Lib.objectInit ⟨#[0xb1]⟩ 1 none ∈ lw_good) {a : Nat} (hfr : 1 ≤ R.frames) (hlo : (st.map fun v => v.category).sum + 12 ≤ R.locals) (d : decode cc pc = .ok (.invokespecial idx, 3))
    (kk : Xw p l e R s m args below meth c G z nL Z (pc + 3) lo st u n kc ks) : Xw p l e R s m args below meth c G z nL Z pc lo (.ref a :: st) u n kc ks :=
  fun H locs ls hl hH hS => W.objInit C.1 C.2.1 C.2.2.2.1 (C.2.2.2.2.1 _ hw1) (C.2.2.2.2.1 _ hw2) (C.2.2.2.2.1 _ hw3) rfl (by rw [C.2.2.1]; exact hl.1) rfl d hfr (by show 2 * 0 + _ + 12 ≤ _; rw [Nat.mul_zero, Nat.zero_add]; exact hlo) (kk H locs ls hl hH hS)
theorem x_run {mc ms : Nat} {st0 rest : List Value} {r : Option Value} {u' : HpT} {n' : Nat} {a : Array Value} (hr : ∀ (H : Heap) (locs : List Loc) (ls : Array Slot), lv_has ls nL lo → Hd G z u n H → va_S (zA z) s.heap H locs → va_Run p l e R s m args below meth c H locs kc ks mc ms (F0 m pc ls st0) rest (Qm G z r u' n' a) (zA z))
    (kk : Xw p l e R s m args below meth c G z nL Z (pc + 3) lo (r.toList ++ rest) u' n' (kc + mc) (ks + ms)) : Xw p l e R s m args below meth c G z nL Z pc lo st0 u n kc ks := by
  intro H locs ls hL hH hS T hT X
  obtain ⟨v, st₀, t, T', L, h0, X', hl2, e1, e2, ⟨⟨hv, hb⟩, hz, hk⟩, sg⟩ := hr H locs ls hL hH hS T hT X
  cases hv
  rw [h0] at hz hk
  obtain ⟨t2, a1, b1⟩ := kk T'.heap (locs ++ L) ls hL (by rw [e1]; exact hb)
    ⟨Nat.le_trans hS.1 (by rw [e1]; exact hz), fun q h1 h2 => by rw [e1, hk q (Nat.lt_of_lt_of_le h1 hS.1) h2]; exact hS.2.1 q h1 h2, fun q hq => by
      rcases List.mem_append.mp hq with h | h
      · exact hS.2.2 q h
      · exact hl2 q h⟩ T' rfl X'
  exact ⟨t2, sg t2 a1, b1⟩
/-- what a callee's words are -/
def ClW (y : MethodName) (bc : ByteArray) (mL : Nat) (rt : Option FieldType) (k : Nat) : Prop := Cond.code y bc mL rt ∈ lw_good ∧ Cond.initialized y.cls ∈ lw_good ∧ (y.cls ≠ "java/lang/invoke/MethodHandle" ∧ y.cls ≠ "java/lang/invoke/VarHandle" ∧ (parseMethodDescriptor y.desc).map (fun d => d.parameters.length) = some k)
def ClV (y : MethodName) (bc : ByteArray) (mL : Nat) (rt : Option FieldType) (k : Nat) : Prop := ClW y bc mL rt k ∧ Cond.instanceMethod y ∈ lw_good ∧ Cond.selects y.cls y y ∈ lw_good
def ClS (y : MethodName) (bc : ByteArray) (mL : Nat) (rt : Option FieldType) (k : Nat) : Prop := ClW y bc mL rt k ∧ Cond.static y ∈ lw_good
def ClI (y : MethodName) (bc : ByteArray) (mL : Nat) (k : Nat) : Prop := ClW y bc mL none k ∧ y.name = "<init>" ∧ Cond.instanceMethod y ∈ lw_good
theorem pc_blind {G : GT} {z : Nat} {av : List Value} {u : HpT} {n : Nat} : FrameBlind (va_Pc av (fun U => Hd G z u n U.heap ∧ Kx G U)) := fun _ _ _ _ h => ⟨h.1, h.2.1, h.2.2.calling⟩
theorem x_callV (C : Cx p s m args c G own cc nL z) {y : MethodName} {bc : ByteArray} {mL k : Nat} {rt : Option FieldType} (hC : ClV y bc mL rt k) {index : Nat} (hw : Cond.methodLink own index y ∈ lw_good) {rm : Room} {b ci : Nat} {T : u_T} {N : Nat} {fs : List Value} {As rest st0 : List Value} {r : Option Value} {u' : HpT} {n' : Nat} (hcl : vwCl[ci]? = some (y.cls, T, N)) (hu : u b = some (.inr (ci, fs)))
    (hM : Mt G l z y bc mL rt rm (.ref (z + b) :: As) u n r u' n') (hst : st0 = As.reverse ++ .ref (z + b) :: rest) (hlen : As.length = k) (hcat : (rest.map fun v => v.category).sum ≤ 8) (hR : rm.frames + 1 ≤ R.frames ∧ 8 + (mL + 11) + rm.locals ≤ R.locals) (hf : kc + rm.cells ≤ R.cells ∧ ks + rm.slots ≤ R.slots) (d : decode cc pc = .ok (.invokevirtual index, 3))
    (kk : Xw p l e R s m args below meth c G z nL Z (pc + 3) lo (r.toList ++ rest) u' n' (kc + rm.cells) (ks + rm.slots)) : Xw p l e R s m args below meth c G z nL Z pc lo st0 u n kc ks := by
  subst hst
  refine x_run (mc := rm.cells) (ms := rm.slots) (r := r) (u' := u') (n' := n') (a := (Value.ref (z + b) :: As).toArray) (fun H locs ls hL hH hS => ?_) kk
  have hts := C.2.2.2.2.1
  refine va_runV (C := y.cls) (As := As) (rest := rest) ⟨C.1, C.2.1, C.2.2.1, C.2.2.2.1, hts⟩ hM ⟨callB_of (ws' := lw_good) k hts (goodIn_good hC.1.1) rfl rfl rfl (hts _ hC.1.2.1) (hts _ hw) hC.1.2.2 hR, hts _ hC.2.1, hts _ hC.2.2⟩ ⟨pc_blind, ?_, fun U hU hW => ⟨rfl, by rw [hU]; exact hH, C.2.2.2.2.2.1.warm hW⟩⟩ rfl hlen hL.1 rfl (lv_room hcat) d hf
  exact va_recv C.2.2.2.2.2.1.1 (hH.one hu) hcl (q0 := 0) rfl
theorem x_callS (C : Cx p s m args c G own cc nL z) {y : MethodName} {bc : ByteArray} {mL k : Nat} {rt : Option FieldType} (hC : ClS y bc mL rt k) {index : Nat} (hw : Cond.methodLink own index y ∈ lw_good) {rm : Room} {As rest st0 : List Value} {r : Option Value} {u' : HpT} {n' : Nat}
    (hM : Mt G l z y bc mL rt rm As u n r u' n') (hst : st0 = As.reverse ++ rest) (hlen : As.length = k) (hcat : (rest.map fun v => v.category).sum ≤ 8) (hR : rm.frames + 1 ≤ R.frames ∧ 8 + (mL + 11) + rm.locals ≤ R.locals) (hf : kc + rm.cells ≤ R.cells ∧ ks + rm.slots ≤ R.slots) (d : decode cc pc = .ok (.invokestatic index, 3))
    (kk : Xw p l e R s m args below meth c G z nL Z (pc + 3) lo (r.toList ++ rest) u' n' (kc + rm.cells) (ks + rm.slots)) : Xw p l e R s m args below meth c G z nL Z pc lo st0 u n kc ks := by
  subst hst
  refine x_run (mc := rm.cells) (ms := rm.slots) (r := r) (u' := u') (n' := n') (a := As.toArray) (fun H locs ls hL hH hS => ?_) kk
  have hts := C.2.2.2.2.1
  exact va_runS (As := As) (rest := rest) ⟨C.1, C.2.1, C.2.2.1, C.2.2.2.1, hts⟩ hM ⟨callB_of (ws' := lw_good) k hts (goodIn_good hC.1.1) rfl rfl rfl (hts _ hC.1.2.1) (hts _ hw) hC.1.2.2 hR, hts _ hC.2⟩ ⟨pc_blind, fun U hU hW => ⟨rfl, by rw [hU]; exact hH, C.2.2.2.2.2.1.warm hW⟩⟩ rfl hlen hL.1 rfl (lv_room hcat) d hf
theorem x_callSN (C : Cx p s m args c G own cc nL z) {y : MethodName} {bc : ByteArray} {mL k : Nat} {rt : Option FieldType} (hC : ClS y bc mL rt k) {index : Nat} {host : String} (hw : Cond.methodLinkNest own index y host ∈ lw_tbl) {rm : Room} {As rest st0 : List Value} {r : Option Value} {u' : HpT} {n' : Nat}
    (hM : Mt G l z y bc mL rt rm As u n r u' n') (hst : st0 = As.reverse ++ rest) (hlen : As.length = k) (hcat : (rest.map fun v => v.category).sum ≤ 8) (hR : rm.frames + 1 ≤ R.frames ∧ 8 + (mL + 11) + rm.locals ≤ R.locals) (hf : kc + rm.cells ≤ R.cells ∧ ks + rm.slots ≤ R.slots) (d : decode cc pc = .ok (.invokestatic index, 3))
    (kk : Xw p l e R s m args below meth c G z nL Z (pc + 3) lo (r.toList ++ rest) u' n' (kc + rm.cells) (ks + rm.slots)) : Xw p l e R s m args below meth c G z nL Z pc lo st0 u n kc ks := by
  subst hst
  refine x_run (mc := rm.cells) (ms := rm.slots) (r := r) (u' := u') (n' := n') (a := As.toArray) (fun H locs ls hL hH hS => ?_) kk
  have hts := C.2.2.2.2.1
  exact va_runSN (As := As) (rest := rest) ⟨C.1, C.2.1, C.2.2.1, C.2.2.2.1, hts⟩ hM ⟨va_cnB (ws' := lw_good) k hts (goodIn_good hC.1.1) rfl rfl rfl (C.2.2.2.2.2.1.2.2.2 _ _ _ _ hw) (hts _ hC.1.2.1) hC.1.2.2 hR, hts _ hC.2, trivial⟩ ⟨pc_blind, fun U hU hW => ⟨rfl, by rw [hU]; exact hH, C.2.2.2.2.2.1.warm hW⟩⟩ rfl hlen hL.1 rfl (lv_room hcat) d hf
theorem x_callI (C : Cx p s m args c G own cc nL z) {y : MethodName} {bc : ByteArray} {mL k : Nat} (hC : ClI y bc mL k) {index : Nat} (hw : Cond.methodLink own index y ∈ lw_good) {rm : Room} {b : Nat} {As rest st0 : List Value} {r : Option Value} {u' : HpT} {n' : Nat}
    (hM : Mt G l z y bc mL none rm (.ref b :: As) u n r u' n') (hst : st0 = As.reverse ++ .ref b :: rest) (hlen : As.length = k) (hcat : (rest.map fun v => v.category).sum ≤ 8) (hR : rm.frames + 1 ≤ R.frames ∧ 8 + (mL + 11) + rm.locals ≤ R.locals) (hf : kc + rm.cells ≤ R.cells ∧ ks + rm.slots ≤ R.slots) (d : decode cc pc = .ok (.invokespecial index, 3))
    (kk : Xw p l e R s m args below meth c G z nL Z (pc + 3) lo (r.toList ++ rest) u' n' (kc + rm.cells) (ks + rm.slots)) : Xw p l e R s m args below meth c G z nL Z pc lo st0 u n kc ks := by
  subst hst
  refine x_run (mc := rm.cells) (ms := rm.slots) (r := r) (u' := u') (n' := n') (a := (Value.ref b :: As).toArray) (fun H locs ls hL hH hS => ?_) kk
  have hts := C.2.2.2.2.1
  exact va_runI (As := As) (rest := rest) ⟨C.1, C.2.1, C.2.2.1, C.2.2.2.1, hts⟩ hM ⟨callB_of (ws' := lw_good) k hts (goodIn_good hC.1.1) rfl rfl rfl (hts _ hC.1.2.1) (hts _ hw) hC.1.2.2 hR, hC.2.1, hts _ hC.2.2⟩ ⟨pc_blind, fun U hU hW => ⟨rfl, by rw [hU]; exact hH, C.2.2.2.2.2.1.warm hW⟩⟩ rfl hlen hL.1 rfl (lv_room hcat) d hf
theorem x_callIN (C : Cx p s m args c G own cc nL z) {y : MethodName} {bc : ByteArray} {mL k : Nat} (hC : ClI y bc mL k) {index : Nat} {host : String} (hw : Cond.methodLinkNest own index y host ∈ lw_tbl) {rm : Room} {b : Nat} {As rest st0 : List Value} {r : Option Value} {u' : HpT} {n' : Nat}
    (hM : Mt G l z y bc mL none rm (.ref b :: As) u n r u' n') (hst : st0 = As.reverse ++ .ref b :: rest) (hlen : As.length = k) (hcat : (rest.map fun v => v.category).sum ≤ 8) (hR : rm.frames + 1 ≤ R.frames ∧ 8 + (mL + 11) + rm.locals ≤ R.locals) (hf : kc + rm.cells ≤ R.cells ∧ ks + rm.slots ≤ R.slots) (d : decode cc pc = .ok (.invokespecial index, 3))
    (kk : Xw p l e R s m args below meth c G z nL Z (pc + 3) lo (r.toList ++ rest) u' n' (kc + rm.cells) (ks + rm.slots)) : Xw p l e R s m args below meth c G z nL Z pc lo st0 u n kc ks := by
  subst hst
  refine x_run (mc := rm.cells) (ms := rm.slots) (r := r) (u' := u') (n' := n') (a := (Value.ref b :: As).toArray) (fun H locs ls hL hH hS => ?_) kk
  have hts := C.2.2.2.2.1
  exact va_runIN (As := As) (rest := rest) ⟨C.1, C.2.1, C.2.2.1, C.2.2.2.1, hts⟩ hM ⟨va_cnB (ws' := lw_good) k hts (goodIn_good hC.1.1) rfl rfl rfl (C.2.2.2.2.2.1.2.2.2 _ _ _ _ hw) (hts _ hC.1.2.1) hC.1.2.2 hR, hC.2.1, hts _ hC.2.2⟩ ⟨pc_blind, fun U hU hW => ⟨rfl, by rw [hU]; exact hH, C.2.2.2.2.2.1.warm hW⟩⟩ rfl hlen hL.1 rfl (lv_room hcat) d hf
theorem x_max (C : Cx p s m args c G own cc nL z) {index : Nat} (hlk : Cond.methodLink own index Lib.Math.max.name ∈ lw_good) (hw2 : Cond.static Lib.Math.max.name ∈ lw_good) (hw3 : Cond.initialized "java/lang/Math" ∈ lw_good) (hw4 : Cond.code Lib.Math.max.name Lib.Math.max.code 2 (some .int) ∈ lw_good) (hfr : 1 ≤ R.frames) (hlo : (st.map fun v => v.category).sum + 13 ≤ R.locals) (hc1 : kc ≤ R.cells) (hs1 : ks ≤ R.slots) {x y : Int32} (d : decode cc pc = .ok (.invokestatic index, 3))
    (kk : Xw p l e R s m args below meth c G z nL Z (pc + 3) lo (.int (if x < y then y else x) :: st) u n kc ks) : Xw p l e R s m args below meth c G z nL Z pc lo (.int y :: .int x :: st) u n kc ks :=
  fun H locs ls hl hH hS => va_mmax C.1 C.2.1 (by rw [C.2.2.1]; exact hl.1.symm) C.2.2.2.1 (C.2.2.2.2.1 _ hlk) (C.2.2.2.2.1 _ hw2) (C.2.2.2.2.1 _ hw3) (C.2.2.2.2.1 _ hw4) hfr hlo hc1 hs1 d (kk H locs ls hl hH hS)
theorem x_min (C : Cx p s m args c G own cc nL z) {index : Nat} (hlk : Cond.methodLink own index Lib.Math.min.name ∈ lw_good) (hw2 : Cond.static Lib.Math.min.name ∈ lw_good) (hw3 : Cond.initialized "java/lang/Math" ∈ lw_good) (hw4 : Cond.code Lib.Math.min.name Lib.Math.min.code 2 (some .int) ∈ lw_good) (hfr : 1 ≤ R.frames) (hlo : (st.map fun v => v.category).sum + 13 ≤ R.locals) (hc1 : kc ≤ R.cells) (hs1 : ks ≤ R.slots) {x y : Int32} (d : decode cc pc = .ok (.invokestatic index, 3))
    (kk : Xw p l e R s m args below meth c G z nL Z (pc + 3) lo (.int (if y < x then y else x) :: st) u n kc ks) : Xw p l e R s m args below meth c G z nL Z pc lo (.int y :: .int x :: st) u n kc ks :=
  fun H locs ls hl hH hS => va_mmin C.1 C.2.1 (by rw [C.2.2.1]; exact hl.1.symm) C.2.2.2.1 (C.2.2.2.2.1 _ hlk) (C.2.2.2.2.1 _ hw2) (C.2.2.2.2.1 _ hw3) (C.2.2.2.2.1 _ hw4) hfr hlo hc1 hs1 d (kk H locs ls hl hH hS)
end XR2
end
